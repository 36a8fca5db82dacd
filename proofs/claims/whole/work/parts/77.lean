theorem va_T.congr {ty : FieldType} {t N : Nat} {f f2 : Nat → Value} {A : Nat → Prop} {U : State} {H : Heap} (h : ∀ k, k < N → f2 k = f k) (hT : va_T ty t N f A U H) : va_T ty t N f2 A U H := by
  obtain ⟨cell, h1, h2, h3, h4, h5, h6, h7⟩ := hT
  exact ⟨cell, h1, h2, h3, h4, h5, fun j hj => by rw [h j hj]; exact h6 j hj, h7⟩
theorem vb_C.congr {a1 a2 : Nat → Nat} {A : Nat → Prop} {U : State} {H : Heap} (h : ∀ k, k < 256 → a2 k = a1 k) (hC : vb_C a1 A U H) : vb_C a2 A U H := by
  obtain ⟨h1, h2⟩ := hC
  refine ⟨fun k hk => by rw [h k hk]; exact h1 k hk, fun k hk => ?_⟩
  rw [h k hk]; exact h2 k hk

/-- what the Statement gives of the start, piece by piece -/
def nrw : List Cond := flatC (Jvm.Cond.and given_1 narrow_1)
theorem kstr_t : ∀ q ∈ kstr, Cond.stringRef q.1 q.2.1 q.2.2 ∈ lw_tbl := by decide +kernel
theorem knc_t : ∀ q ∈ knc, Cond.not (.castable q.1 q.2) ∈ nrw := by decide +kernel
theorem OW_all {args : Array Value} {s : State} {D : va_G} {tys : List (ClassId × FieldType)} (hts0 : ∀ w ∈ lw_tbl, w.before args s = true) (hg : ∀ w ∈ nrw, w.before args s = true) (hK : va_K D vwCl tys s) : ∃ K0 : Nat → Nat, OW (fun q => s.heap.size ≤ q) K0 s := by
  have hA : ∀ a : Nat, a < s.heap.size → ¬ (fun q : Nat => s.heap.size ≤ q) a := fun a h => Nat.not_le.mpr h
  have t := fun (i : Nat) (w : Cond) (h : tables_1[i]? = some w) => hts0 w (tb h)
  obtain ⟨mi, hmi⟩ := va_Mi.of (C := "[Ljava/lang/Object;") (hg _ (show Cond.isRef (.mirror "[Ljava/lang/Object;") ∈ nrw by decide +kernel))
  obtain ⟨te, e1, e2⟩ := va_Tof (tm := .static "java/util/ArrayList" "DEFAULTCAPACITY_EMPTY_ELEMENTDATA" "[Ljava/lang/Object;") (ty := .object "java/lang/Object") (N := 0) (f := fun _ => .null) (A := fun q => s.heap.size ≤ q) (by decide) (hg _ (show Cond.arrayOf (.static "java/util/ArrayList" "DEFAULTCAPACITY_EMPTY_ELEMENTDATA" "[Ljava/lang/Object;") (.object "java/lang/Object") ∈ nrw by decide +kernel)) (va_eqt (hg _ (show Cond.eq (.length (.static "java/util/ArrayList" "DEFAULTCAPACITY_EMPTY_ELEMENTDATA" "[Ljava/lang/Object;")) (.int 0) ∈ nrw by decide +kernel))) (fun j h => absurd h (Nat.not_lt_zero j)) hA
  have hlen := va_eqt (hg _ (show Cond.eq (.length (.static "java/lang/Integer$IntegerCache" "cache" "[Ljava/lang/Integer;")) (.int 256) ∈ nrw by decide +kernel))
  obtain ⟨ad, c1, c2⟩ := vb_Cof (A := fun q => s.heap.size ≤ q) (st := .static "java/lang/Integer$IntegerCache" "cache" "[Ljava/lang/Integer;") rfl hlen (hg _ (by decide +kernel)) hA
  obtain ⟨tc, d1, d2⟩ := va_Tof (tm := .static "java/lang/Integer$IntegerCache" "cache" "[Ljava/lang/Integer;") (ty := .object "java/lang/Integer") (N := 256) (f := fun k => .ref (ad k)) (A := fun q => s.heap.size ≤ q) (by decide) (hg _ (show Cond.arrayOf (.static "java/lang/Integer$IntegerCache" "cache" "[Ljava/lang/Integer;") (.object "java/lang/Integer") ∈ nrw by decide +kernel)) hlen c2 hA
  obtain ⟨K0, k0, k1, k2, k3⟩ : ∃ K0 : Nat → Nat, K0 0 = te ∧ K0 1 = tc ∧ K0 300 = mi ∧ ∀ k, k < 256 → K0 (2 + k) = ad k := ⟨fun n => if n = 0 then te else if n = 1 then tc else if n = 300 then mi else ad (n - 2), rfl, rfl, rfl, fun k hk => by
    show (if 2 + k = 0 then te else if 2 + k = 1 then tc else if 2 + k = 300 then mi else ad (2 + k - 2)) = ad k
    rw [if_neg (by omega), if_neg (by omega), if_neg (by omega), Nat.add_sub_cancel_left]⟩
  refine ⟨K0, ⟨vx_Zqof (t 268 _ (by decide +kernel)) (t 11 _ (by decide +kernel)) (hg _ (show Cond.isRef (.static "java/lang/Throwable" "UNASSIGNED_STACK" "[Ljava/lang/StackTraceElement;") ∈ nrw by decide +kernel)) hA, vx_Zqof (t 270 _ (by decide +kernel)) (t 11 _ (by decide +kernel)) (hg _ (show Cond.isRef (.static "java/lang/Throwable" "SUPPRESSED_SENTINEL" "Ljava/util/List;") ∈ nrw by decide +kernel)) hA⟩, fun q hq => ?_, fun w hw => ?_, ⟨?_, ?_, by rw [k2]; exact hmi⟩, ⟨va_AO.of (hts0 _ (tb (i := 164) (by decide +kernel))), va_AO.of (hts0 _ (tb (i := 1056) (by decide +kernel)))⟩, ⟨?_, by rw [k0]; exact e2⟩, ⟨?_, ?_, ?_, ?_⟩, fun q hq => va_Nc.of (hg _ (knc_t q hq))⟩
  · have h := hts0 _ (kstr_t q hq)
    have ho : q.1 = RX5 := (show ∀ q ∈ kstr, q.1 = RX5 by decide) q hq
    obtain ⟨k, cf, i, a, -, -, -, -, -, h6⟩ := Cond.stringRef_spec (by rw [ho]; exact (hK.1 8 _ rfl).2.1) h
    exact ⟨a, vk_R.of h h6⟩
  · have hw := List.mem_filter.mp hw
    exact va_Nw.of (kmv_t hw.2) (hts0 _ hw.1)
  · exact va_Fw.of (t 850 _ (by decide +kernel)) (t 849 _ (by decide +kernel)) (t 855 _ (by decide +kernel)) (t 853 _ (by decide +kernel)) (t 851 _ (by decide +kernel))
  · exact va_Fw.of (t 860 _ (by decide +kernel)) (t 859 _ (by decide +kernel)) (t 864 _ (by decide +kernel)) (t 862 _ (by decide +kernel)) (t 851 _ (by decide +kernel))
  · rw [k0]; exact va_Zof (t 764 _ (by decide +kernel)) (t 10 _ (by decide +kernel)) e1 hA
  · exact va_Zof (t 1079 _ (by decide +kernel)) (t 24 _ (by decide +kernel)) (va_eqi (hg _ (show Cond.eq (.static "java/lang/Integer$IntegerCache" "high" "I") (.int 127) ∈ nrw by decide +kernel))) hA
  · rw [k1]; exact va_Zof (t 1081 _ (by decide +kernel)) (t 24 _ (by decide +kernel)) d1 hA
  · rw [k1]; exact va_T.congr (fun k hk => by rw [k3 k hk]) d2
  · exact vb_C.congr (fun k hk => k3 k hk) c1
