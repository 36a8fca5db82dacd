section MADD
variable {p : Program} {l : Launch} {e : Env} {R : Room} {s : State} {m : MethodId} {args : Array Value} {below : List Frame} {meth : Method} {c : Code} {H : Heap} {locs : List Loc} {cells slots : Nat} {Q : State → Prop} {cc : ByteArray} {pc : Nat} {ls : Array Slot} {rest st0 : List Value} {D : va_G} {A : Nat → Prop} {tys : List (ClassId × FieldType)} {K0 : Nat → Nat} {H0 : Heap} {L L' : List (Nat × Nat)} {ad ad' : Nat → Nat → Nat} {ce ce' : Nat → Nat → va_E} {cI cG cJ cO : ClassId} {mc ms : Nat} {cp cp2 : Nat → Nat} {S S1 S2 T U : Nat → Nat → Nat → Int32} {u : Nat → Nat → Nat}
theorem mc_congr {f o : Nat} (hf : f < 53) (hf0 : 30 ≤ f)
    (h30 : f = 30 → S2 40 0 0 = S1 40 0 0 ∧ S2 0 0 1 = S1 0 0 1 ∧ (∀ g, 30 < g → g < 38 → u g 0 = ad g 0))
    (hl : ∀ t, t < 5 → f = 31 + t → S2 42 t 0 = S1 42 t 0 ∧ mszI S2 t = mszI S1 t ∧ (if cp2 t = 0 then K0 0 else u (38 + t) 0) = (if cp t = 0 then K0 0 else ad (38 + t) 0))
    (hx : f = 36 ∨ f = 37 → S2 11 0 = S1 11 0 ∧ S2 13 0 = S1 13 0)
    (hb : ∀ t, t < 5 → f = 38 + t → cp2 t = cp t ∧ msz S2 t = msz S1 t ∧ ∀ k, k < msz S1 t → mel K0 u S2 t k = mel K0 ad S1 t k)
    (h43 : f = 43 → ∀ r, 7 ≤ r → r < 11 → S2 r 0 o = S1 r 0 o) (h44 : f = 44 → ∀ r, r = 14 ∨ r = 15 ∨ r = 16 ∨ r = 41 → S2 r 0 o = S1 r 0 o) (h45 : f = 45 → ∀ r, 17 ≤ r → r < 20 → S2 r 0 o = S1 r 0 o)
    (h46 : f = 46 → S2 6 o = S1 6 o ∧ (∀ g, 46 < g → g < 52 → u g o = ad g o)) (h47 : 46 < f → f < 52 → S2 (f - 23) o = S1 (f - 23) o) (h52 : f = 52 → S2 12 0 o = S1 12 0 o) : mcell cI cO K0 u cp2 S2 f o = mcell cI cO K0 ad cp S1 f o := by
  unfold mcell
  by_cases q0 : f < 43 ∧ ¬ o = 0
  · rw [if_pos q0, if_pos q0]
  rw [if_neg q0, if_neg q0]
  by_cases c0 : f = 30
  · obtain ⟨a, b, d⟩ := h30 c0
    rw [if_pos c0, if_pos c0, a, b, d 31 (by decide) (by decide), d 32 (by decide) (by decide), d 33 (by decide) (by decide), d 34 (by decide) (by decide), d 35 (by decide) (by decide), d 36 (by decide) (by decide), d 37 (by decide) (by decide)]
  rw [if_neg c0, if_neg c0]
  by_cases c1 : f < 36
  · obtain ⟨a, b, d⟩ := hl (f - 31) (by omega) (by omega)
    have e : f + 7 = 38 + (f - 31) := by omega
    rw [if_pos c1, if_pos c1, a, b, e, d]
  rw [if_neg c1, if_neg c1]
  by_cases c2 : f = 36
  · rw [if_pos c2, if_pos c2, (hx (Or.inl c2)).1]
  rw [if_neg c2, if_neg c2]
  by_cases c3 : f = 37
  · rw [if_pos c3, if_pos c3, (hx (Or.inr c3)).2]
  rw [if_neg c3, if_neg c3]
  by_cases c4 : f < 43
  · obtain ⟨a, b, d⟩ := hb (f - 38) (by omega) (by omega)
    rw [if_pos c4, if_pos c4, a, b]
    have e : (fun k => if k < msz S1 (f - 38) then some (mel K0 u S2 (f - 38) k) else none) = (fun k => if k < msz S1 (f - 38) then some (mel K0 ad S1 (f - 38) k) else none) := by
      funext k
      by_cases h : k < msz S1 (f - 38)
      · rw [if_pos h, if_pos h, d k h]
      · rw [if_neg h, if_neg h]
    rw [e]
  rw [if_neg c4, if_neg c4]
  by_cases c5 : f = 43
  · have h := h43 c5
    rw [if_pos c5, if_pos c5, h 7 (by decide) (by decide), h 8 (by decide) (by decide), h 9 (by decide) (by decide), h 10 (by decide) (by decide)]
  rw [if_neg c5, if_neg c5]
  by_cases c6 : f = 44
  · have h := h44 c6
    rw [if_pos c6, if_pos c6, h 14 (by decide), h 15 (by decide), h 16 (by decide), h 41 (by decide)]
  rw [if_neg c6, if_neg c6]
  by_cases c7 : f = 45
  · have h := h45 c7
    rw [if_pos c7, if_pos c7, h 17 (by decide) (by decide), h 18 (by decide) (by decide), h 19 (by decide) (by decide)]
  rw [if_neg c7, if_neg c7]
  by_cases c8 : f = 46
  · obtain ⟨a, b⟩ := h46 c8
    rw [if_pos c8, if_pos c8, a, b 47 (by decide) (by decide), b 48 (by decide) (by decide), b 49 (by decide) (by decide), b 50 (by decide) (by decide), b 51 (by decide) (by decide)]
  rw [if_neg c8, if_neg c8]
  by_cases c9 : f = 47
  · rw [if_pos c9, if_pos c9]; subst c9; exact congrArg (fun z => (.inl (cI, 12, .inl z) : va_E)) (h47 (by decide) (by decide))
  rw [if_neg c9, if_neg c9]
  by_cases c10 : f = 48
  · rw [if_pos c10, if_pos c10]; subst c10; exact congrArg (fun z => (.inl (cI, 12, .inl z) : va_E)) (h47 (by decide) (by decide))
  rw [if_neg c10, if_neg c10]
  by_cases c11 : f = 49
  · rw [if_pos c11, if_pos c11]; subst c11; exact congrArg (fun z => (.inl (cI, 12, .inl z) : va_E)) (h47 (by decide) (by decide))
  rw [if_neg c11, if_neg c11]
  by_cases c12 : f = 50
  · rw [if_pos c12, if_pos c12]; subst c12; exact congrArg (fun z => (.inl (cI, 12, .inl z) : va_E)) (h47 (by decide) (by decide))
  rw [if_neg c12, if_neg c12]
  by_cases c13 : f = 51
  · rw [if_pos c13, if_pos c13]; subst c13; exact congrArg (fun z => (.inl (cI, 12, .inl z) : va_E)) (h47 (by decide) (by decide))
  rw [if_neg c13, if_neg c13, h52 (by omega)]
/-- what of the reference is not yet there -/
def MF (S : Nat → Nat → Nat → Int32) (L : List (Nat × Nat)) (cp : Nat → Nat) : Prop :=
  (∀ k, msz S 0 ≤ k → (43, k) ∉ L) ∧ (∀ k, msz S 1 ≤ k → (52, k) ∉ L) ∧ (∀ k, msz S 2 ≤ k → (44, k) ∉ L) ∧ (∀ k, msz S 3 ≤ k → (45, k) ∉ L) ∧ (∀ f k, 46 ≤ f → f < 52 → msz S 4 ≤ k → (f, k) ∉ L) ∧
  (∀ t, t < 5 → (cp t = 0 → (38 + t, 0) ∉ L) ∧ (cp t ≠ 0 → (38 + t, 0) ∈ L) ∧ (cp t = 0 ∨ cp t = 10 ∨ cp t = 15 ∨ cp t = 22))
theorem MF.sm (h : SM S T) (k : MF S L cp) : MF T L cp := by unfold MF; simp only [h.z]; exact k
/-- T has what S has, and may have rows of new elements -/
def SE (S T : Nat → Nat → Nat → Int32) : Prop :=
  (∀ f, f < 4 ∨ f = 11 ∨ f = 13 ∨ f = 40 ∨ f = 42 → T f = S f) ∧ (∀ k, k < msz S 1 → T 12 0 k = S 12 0 k) ∧ (∀ r o, 7 ≤ r → r < 11 → o < msz S 0 → T r 0 o = S r 0 o) ∧ (∀ r o, r = 14 ∨ r = 15 ∨ r = 16 ∨ r = 41 → o < msz S 2 → T r 0 o = S r 0 o) ∧ (∀ r o, 17 ≤ r → r < 20 → o < msz S 3 → T r 0 o = S r 0 o) ∧ (∀ r o, r = 6 ∨ (23 < r ∧ r < 29) → o < msz S 4 → T r o = S r o)
theorem SE.rf : SE S S := ⟨fun _ _ => rfl, fun _ _ => rfl, fun _ _ _ _ _ => rfl, fun _ _ _ _ => rfl, fun _ _ _ _ _ => rfl, fun _ _ _ _ => rfl⟩
theorem SE.zi (h : SE S T) (t : Nat) : mszI T t = mszI S t := by unfold mszI; rw [h.1 1 (by omega), h.1 2 (by omega), h.1 3 (by omega), h.1 0 (by omega)]
theorem SE.z (h : SE S T) (t : Nat) : msz T t = msz S t := by unfold msz; rw [h.zi]
theorem MR.se (h : SE S T) (k : MR S L cp) : MR T L cp := ⟨k.1, fun t a b => k.2.1 t a (by rw [← h.z]; exact b), fun t a => by rw [h.z]; exact k.2.2.1 t a, fun q a => k.2.2.2.1 q (by rw [← h.z]; exact a), fun q a => by
  rw [h.z] at a
  rw [h.2.1 q a]
  exact k.2.2.2.2.1 q a, fun q a => k.2.2.2.2.2.1 q (by rw [← h.z]; exact a), fun q a => k.2.2.2.2.2.2.1 q (by rw [← h.z]; exact a), fun f q a b c => k.2.2.2.2.2.2.2 f q a b (by rw [← h.z]; exact c)⟩
/-- old cells, seen over new addresses and new rows -/
theorem mK_ex (hR : MR S L cp) (hF : MF S L cp) (hE : Ex L ad u) (hS : SE S T) {f o : Nat} (h : (f, o) ∈ L) : mK cI cO K0 u cp ce T f o = mK cI cO K0 ad cp ce S f o := by
  by_cases q : f < 30 ∨ 53 ≤ f
  · rw [mK_ou q, mK_ou q]
  rw [mK_in (by omega) (by omega), mK_in (by omega) (by omega)]
  refine mc_congr (by omega) (by omega) (fun e => ⟨by rw [hS.1 40 (by omega)], by rw [hS.1 0 (by omega)], fun g a b => hE g 0 (hR.1 g (by omega) b)⟩) (fun t ht e => ⟨by rw [hS.1 42 (by omega)], hS.zi t, ?_⟩) (fun e => ⟨by rw [hS.1 11 (by omega)], by rw [hS.1 13 (by omega)]⟩) (fun t ht e => ⟨rfl, hS.z t, fun k hk => ?_⟩) (fun e r a b => ?_) (fun e r a => ?_) (fun e r a b => ?_) (fun e => ⟨?_, fun g a b => ?_⟩) (fun a b => ?_) (fun e => ?_)
  · by_cases c : cp t = 0
    · rw [if_pos c, if_pos c]
    · rw [if_neg c, if_neg c, hE _ _ ((hF.2.2.2.2.2 t ht).2.1 c)]
  · unfold mel
    by_cases c0 : t = 0
    · rw [if_pos c0, if_pos c0]; subst c0; exact hE _ _ (hR.2.2.2.1 k hk)
    rw [if_neg c0, if_neg c0]
    by_cases c1 : t = 1
    · subst c1
      rw [if_pos rfl, if_pos rfl, hS.2.1 k hk]
      by_cases c : 127 < S 12 0 k
      · rw [if_pos c, if_pos c]; exact hE _ _ ((hR.2.2.2.2.1 k hk).1 c)
      · rw [if_neg c, if_neg c]
    rw [if_neg c1, if_neg c1]
    by_cases c2 : t = 2
    · rw [if_pos c2, if_pos c2]; subst c2; exact hE _ _ (hR.2.2.2.2.2.1 k hk)
    rw [if_neg c2, if_neg c2]
    by_cases c3 : t = 3
    · rw [if_pos c3, if_pos c3]; subst c3; exact hE _ _ (hR.2.2.2.2.2.2.1 k hk)
    rw [if_neg c3, if_neg c3]
    obtain rfl : t = 4 := by omega
    exact hE _ _ (hR.2.2.2.2.2.2.2 46 k (by decide) (by decide) hk)
  · subst e; exact hS.2.2.1 r o a b (Nat.lt_of_not_le fun z => hF.1 o z h)
  · subst e; exact hS.2.2.2.1 r o a (Nat.lt_of_not_le fun z => hF.2.2.1 o z h)
  · subst e; exact hS.2.2.2.2.1 r o a b (Nat.lt_of_not_le fun z => hF.2.2.2.1 o z h)
  · subst e; exact hS.2.2.2.2.2 6 o (Or.inl rfl) (Nat.lt_of_not_le fun z => hF.2.2.2.2.1 46 o (by decide) (by decide) z h)
  · subst e
    have ho : o < msz S 4 := Nat.lt_of_not_le fun z => hF.2.2.2.2.1 46 o (by decide) (by decide) z h
    exact hE _ _ (hR.2.2.2.2.2.2.2 g o (by omega) b ho)
  · exact hS.2.2.2.2.2 (f - 23) o (Or.inr ⟨by omega, by omega⟩) (Nat.lt_of_not_le fun z => hF.2.2.2.2.1 f o (by omega) b z h)
  · subst e; exact hS.2.1 o (Nat.lt_of_not_le fun z => hF.2.1 o z h)
/-- a list's cell, a list's row -/
theorem mc_l {t : Nat} (ht : t < 5) : mcell cI cO K0 ad cp S (31 + t) 0 = .inr (2, [.int (S 42 t 0), .ref (if cp t = 0 then K0 0 else ad (38 + t) 0), .int (mszI S t)]) := by
  have : t = 0 ∨ t = 1 ∨ t = 2 ∨ t = 3 ∨ t = 4 := by omega
  rcases this with rfl | rfl | rfl | rfl | rfl <;> rfl
theorem mc_b {t : Nat} (ht : t < 5) : mcell cI cO K0 ad cp S (38 + t) 0 = .inl (cO, cp t, .inr (.inr (.inr (.inr (fun k => if k < msz S t then some (mel K0 ad S t k) else none))))) := by
  have : t = 0 ∨ t = 1 ∨ t = 2 ∨ t = 3 ∨ t = 4 := by omega
  rcases this with rfl | rfl | rfl | rfl | rfl <;> rfl
/-- one more in a list -/
def szr (t : Nat) : Nat × Nat := if t = 0 then (1, 0) else if t = 1 then (1, 1) else if t = 2 then (2, 0) else if t = 3 then (3, 0) else (0, 0)
def addS (S : Nat → Nat → Nat → Int32) (t : Nat) (m : Int32) : Nat → Nat → Nat → Int32 := up3 (up3 S 42 t 0 (S 42 t 0 + 1)) (szr t).1 0 (szr t).2 m
theorem addS_zi {t : Nat} (ht : t < 5) {m : Int32} : mszI (addS S t m) t = m := by
  have : t = 0 ∨ t = 1 ∨ t = 2 ∨ t = 3 ∨ t = 4 := by omega
  rcases this with rfl | rfl | rfl | rfl | rfl <;> rfl
theorem addS_zo {t t' : Nat} (ht : t < 5) (h : t' ≠ t) (ht' : t' < 5) {m : Int32} : mszI (addS S t m) t' = mszI S t' := by
  have h1 : t = 0 ∨ t = 1 ∨ t = 2 ∨ t = 3 ∨ t = 4 := by omega
  have h2 : t' = 0 ∨ t' = 1 ∨ t' = 2 ∨ t' = 3 ∨ t' = 4 := by omega
  rcases h1 with rfl | rfl | rfl | rfl | rfl <;> rcases h2 with rfl | rfl | rfl | rfl | rfl <;> first | rfl | exact absurd rfl h
theorem addS_r {t f : Nat} {m : Int32} (h : 4 ≤ f) (h2 : f ≠ 42) : addS S t m f = S f := by
  have h3 : (szr t).1 < 4 := by unfold szr; repeat' split
                                all_goals decide
  unfold addS
  rw [up3_f (by omega), up3_f h2]
theorem addS_42 {t : Nat} {m : Int32} : addS S t m 42 t 0 = S 42 t 0 + 1 := by
  have h3 : (szr t).1 < 4 := by unfold szr; repeat' split
                                all_goals decide
  unfold addS
  rw [up3_f (by omega), up3_e]
theorem addS_42o {t t' : Nat} (h : t' ≠ t) {m : Int32} : addS S t m 42 t' 0 = S 42 t' 0 := by
  have h3 : (szr t).1 < 4 := by unfold szr; repeat' split
                                all_goals decide
  unfold addS
  rw [up3_f (by omega), up3_o h]
theorem addS_td {t : Nat} (ht : t < 5) {m : Int32} : addS S t m 0 0 1 = S 0 0 1 := by
  have : t = 0 ∨ t = 1 ∨ t = 2 ∨ t = 3 ∨ t = 4 := by omega
  rcases this with rfl | rfl | rfl | rfl | rfl <;> rfl
/-- the other cells stay as they are -/
theorem mc_add {t f o q c2 : Nat} {m : Int32} (ht : t < 5) (hf : f < 53) (hf0 : 30 ≤ f) (h1 : ¬ (f = 31 + t ∧ o = 0)) (h2 : ¬ (f = 38 + t ∧ o = 0)) : mcell cI cO K0 (upa ad (38 + t) 0 q) (fun t' => if t' = t then c2 else cp t') (addS S t m) f o = mcell cI cO K0 ad cp S f o := by
  by_cases q0 : f < 43 ∧ ¬ o = 0
  · unfold mcell; rw [if_pos q0, if_pos q0]
  have hu : ∀ g p, g ≠ 38 + t → upa ad (38 + t) 0 q g p = ad g p := fun g p z => upa_ne (i := (g, p)) (fun y => z (congrArg Prod.fst y))
  have hne : ∀ t', f = 31 + t' → t' ≠ t := fun t' e z => h1 ⟨by omega, by omega⟩
  have hne2 : ∀ t', f = 38 + t' → t' < 5 → t' ≠ t := fun t' e l z => h2 ⟨by omega, by omega⟩
  refine mc_congr hf hf0 (fun e => ⟨by rw [addS_r (by decide) (by decide)], addS_td ht, fun g a b => hu g 0 (by omega)⟩) (fun t' ht' e => ⟨addS_42o (hne t' e), addS_zo ht (hne t' e) ht', ?_⟩) (fun e => ⟨by rw [addS_r (by decide) (by decide)], by rw [addS_r (by decide) (by decide)]⟩) (fun t' ht' e => ⟨if_neg (hne2 t' e ht'), by unfold msz; rw [addS_zo ht (hne2 t' e ht') ht'], fun k hk => ?_⟩) (fun e r a b => by rw [addS_r (by omega) (by omega)]) (fun e r a => by rw [addS_r (by omega) (by omega)]) (fun e r a b => by rw [addS_r (by omega) (by omega)]) (fun e => ⟨by rw [addS_r (by decide) (by decide)], fun g a b => hu g o (by omega)⟩) (fun a b => by rw [addS_r (by omega) (by omega)]) (fun e => by rw [addS_r (by decide) (by decide)])
  · show (if (if t' = t then c2 else cp t') = 0 then K0 0 else _) = _
    rw [if_neg (hne t' e), hu _ _ (by have := hne t' e; omega)]
  · unfold mel
    rw [hu 43 k (by omega), hu 44 k (by omega), hu 45 k (by omega), hu 46 k (by omega), hu 52 k (by omega), addS_r (by decide) (by decide)]
end MADD
