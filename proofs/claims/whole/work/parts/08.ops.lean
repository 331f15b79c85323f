/-! ===== the small machine's instructions ===== -/
theorem o32 {a : Int} (h : -2147483648 ≤ a ∧ a < 2147483648) : (Int32.ofInt a).toInt = a := by
  refine Int32.toInt_ofInt_of_le ?_ ?_
  · have : (-2 ^ 31 : Int) = -2147483648 := by decide
    omega
  · have : (2 ^ 31 : Int) = 2147483648 := by decide
    omega
theorem o64 {a : Int} (h : -9223372036854775808 ≤ a ∧ a < 9223372036854775808) : (Int64.ofInt a).toInt = a := by
  refine Int64.toInt_ofInt_of_le ?_ ?_
  · have : (-2 ^ 63 : Int) = -9223372036854775808 := by decide
    omega
  · have : (2 ^ 63 : Int) = 9223372036854775808 := by decide
    omega
theorem o32_eq {a b : Int} (ha : -2147483648 ≤ a ∧ a < 2147483648) (hb : -2147483648 ≤ b ∧ b < 2147483648) : Int32.ofInt a = Int32.ofInt b ↔ a = b := by
  rw [← Int32.toInt_inj, o32 ha, o32 hb]
theorem o32_lt {a b : Int} (ha : -2147483648 ≤ a ∧ a < 2147483648) (hb : -2147483648 ≤ b ∧ b < 2147483648) : Int32.ofInt a < Int32.ofInt b ↔ a < b := by
  rw [Int32.lt_iff_toInt_lt, o32 ha, o32 hb]
theorem o32_le {a b : Int} (ha : -2147483648 ≤ a ∧ a < 2147483648) (hb : -2147483648 ≤ b ∧ b < 2147483648) : Int32.ofInt a ≤ Int32.ofInt b ↔ a ≤ b := by
  rw [Int32.le_iff_toInt_le, o32 ha, o32 hb]
theorem o32_cl {a : Int} (ha : 0 ≤ a ∧ a < 2147483648) : (Int32.ofInt a).toNatClampNeg = a.toNat := by
  show (Int32.ofInt a).toInt.toNat = a.toNat
  rw [o32 ⟨by omega, ha.2⟩]
theorem o32_in {a : Int} {n : Nat} (h : 0 ≤ a ∧ a < (n : Int)) (hn : n < 2147483648) : vp_in (Int32.ofInt a) n := by
  rw [vp_in_iff, o32 ⟨by omega, by omega⟩]
  exact h
/-- a step that leaves the heap as it is -/
theorem mGo.pu {Z : mZ} {M : mM} {pc pc' : Nat} {ls ls' : mL} {st st' : List mV} {h : mH}
    (hh : ∀ (b : Nat) (p : Program) (l : Launch) (e : Env) (R : Room) (s : State) (m : MethodId) (args : Array Value) (below : List Frame) (meth : Method) (c : Code) (H : Heap) (locs : List Loc) (cells slots : Nat) (Q : State → Prop) (la : Array Slot), p.tables.exec = Jvm.exec → c.code = M.2.1 → s.vm.findClass M.1.cls = some m.cls → (∀ w ∈ gtbl, w.before args s = true) → mLs b la M.2.2.1 ls →
      (∀ la' : Array Slot, mLs b la' M.2.2.1 ls' → W p l e R s m args below meth c H locs cells slots Q (F0 m pc' la' (st'.map (mden b)))) → W p l e R s m args below meth c H locs cells slots Q (F0 m pc la (st.map (mden b)))) : mGo Z M pc ls st h pc' ls' st' h := by
  refine ⟨⟨Nat.le_refl _, Nat.le_refl _⟩, ?_⟩
  intro P D p l e R s m args below meth c Q c0 s0 C hZ hc hs hC hS k H locs la hl hR hV
  exact hh P.1 p l e R s m args below meth c H locs _ _ Q la C.1 C.2.1 C.2.2.2.1 C.2.2.2.2.2.1 hl (fun la' hl' => k H locs la' hl' hR hV)
section OPS
variable {Z : mZ} {M : mM} {pc : Nat} {ls : mL} {st : List mV} {h : mH}
/-! constants -/
theorem q_iconst {n : Int} (d : decode M.2.1 pc = .ok (.iconst n, 1)) : mGo Z M pc ls st h (pc + 1) ls (mi n :: st) h :=
  mGo.pu fun b p l e R s m args below meth c H locs cells slots Q la hx hb ho ht hl k => lv_iconst hx hb d rfl (k la hl)
theorem q_bipush {n : Int} (d : decode M.2.1 pc = .ok (.bipush n, 2)) (hn : (Int8.ofInt n).toInt32 = Int32.ofInt n) : mGo Z M pc ls st h (pc + 2) ls (mi n :: st) h :=
  mGo.pu fun b p l e R s m args below meth c H locs cells slots Q la hx hb ho ht hl k => lv_bipush hx hb d hn (k la hl)
theorem q_sipush {n : Int} (d : decode M.2.1 pc = .ok (.sipush n, 3)) (hn : (Int16.ofInt n).toInt32 = Int32.ofInt n) : mGo Z M pc ls st h (pc + 3) ls (mi n :: st) h :=
  mGo.pu fun b p l e R s m args below meth c H locs cells slots Q la hx hb ho ht hl k => lv_sipush hx hb d hn (k la hl)
theorem q_lconst {n : Fin 2} {a : Int} (d : decode M.2.1 pc = .ok (.lconst n, 1)) (hn : Int64.ofNat (n : Nat) = Int64.ofInt a) : mGo Z M pc ls st h (pc + 1) ls (ml a :: st) h :=
  mGo.pu fun b p l e R s m args below meth c H locs cells slots Q la hx hb ho ht hl k => lv_lconst hx hb d hn (k la hl)
theorem q_ldc {index : Nat} {a : Int} (d : decode M.2.1 pc = .ok (.ldc index, 2)) (ok : Cond.constant M.1.cls index (Int32.ofInt a) ∈ gtbl) : mGo Z M pc ls st h (pc + 2) ls (mi a :: st) h :=
  mGo.pu fun b p l e R s m args below meth c H locs cells slots Q la hx hb ho ht hl k => lv_ldc hx hb ho (ht _ ok) d (k la hl)
theorem q_ldc2 {index : Nat} {a : Int} (d : decode M.2.1 pc = .ok (.ldc2_w index, 3)) (ok : Cond.constantLong M.1.cls index (Int64.ofInt a) ∈ gtbl) : mGo Z M pc ls st h (pc + 3) ls (ml a :: st) h :=
  mGo.pu fun b p l e R s m args below meth c H locs cells slots Q la hx hb ho ht hl k => lv_ldc2 hx hb ho (ht _ ok) d (k la hl)
/-! locals -/
theorem q_iload_n {k : Fin 4} {i : Nat} {a : Int} (d : decode M.2.1 pc = .ok (.iload_n k, 1)) (hi : (k : Nat) = i) (hv : ls[i]? = some (some (mi a))) : mGo Z M pc ls st h (pc + 1) ls (mi a :: st) h :=
  mGo.pu fun b p l e R s m args below meth c H locs cells slots Q la hx hb ho ht hl k => lv_iload_n hx hb d hi (hl.2.2 i _ hv) (k la hl)
theorem q_iload {i : Nat} {a : Int} (d : decode M.2.1 pc = .ok (.iload i, 2)) (hv : ls[i]? = some (some (mi a))) : mGo Z M pc ls st h (pc + 2) ls (mi a :: st) h :=
  mGo.pu fun b p l e R s m args below meth c H locs cells slots Q la hx hb ho ht hl k => lv_iload hx hb d (hl.2.2 i _ hv) (k la hl)
theorem q_lload_n {k : Fin 4} {i : Nat} {a : Int} (d : decode M.2.1 pc = .ok (.lload_n k, 1)) (hi : (k : Nat) = i) (hv : ls[i]? = some (some (ml a))) : mGo Z M pc ls st h (pc + 1) ls (ml a :: st) h :=
  mGo.pu fun b p l e R s m args below meth c H locs cells slots Q la hx hb ho ht hl k => lv_lload_n hx hb d hi (hl.2.2 i _ hv) (k la hl)
theorem q_lload {i : Nat} {a : Int} (d : decode M.2.1 pc = .ok (.lload i, 2)) (hv : ls[i]? = some (some (ml a))) : mGo Z M pc ls st h (pc + 2) ls (ml a :: st) h :=
  mGo.pu fun b p l e R s m args below meth c H locs cells slots Q la hx hb ho ht hl k => lv_lload hx hb d (hl.2.2 i _ hv) (k la hl)
theorem q_aload_n {k : Fin 4} {i a : Nat} (d : decode M.2.1 pc = .ok (.aload_n k, 1)) (hi : (k : Nat) = i) (hv : ls[i]? = some (some (mr a))) : mGo Z M pc ls st h (pc + 1) ls (mr a :: st) h :=
  mGo.pu fun b p l e R s m args below meth c H locs cells slots Q la hx hb ho ht hl k => lv_aload_n hx hb d hi (hl.2.2 i _ hv) (k la hl)
theorem q_aload {i a : Nat} (d : decode M.2.1 pc = .ok (.aload i, 2)) (hv : ls[i]? = some (some (mr a))) : mGo Z M pc ls st h (pc + 2) ls (mr a :: st) h :=
  mGo.pu fun b p l e R s m args below meth c H locs cells slots Q la hx hb ho ht hl k => lv_aload hx hb d (hl.2.2 i _ hv) (k la hl)
/-- storing: the place behind a long that ended there is free again -/
def mil : Option mV → Bool
  | some (.inr (.inl _)) => true
  | _ => false
def mst (ls : mL) (i : Nat) (v : mV) : mL := (match i with
  | 0 => ls
  | i + 1 => bif mil ((ls[i]?).getD none) then ls.set i none else ls).set i (some v)
theorem mLs_as {b n : Nat} {la : Array Slot} {ls : mL} (h : mLs b la n ls) : lv_has la n ((List.range ls.length).filterMap (fun i => (ls.getD i none).map (fun v => (i, mden b v)))) := by
  refine ⟨h.1, h.2.1, fun q hq => ?_⟩
  obtain ⟨i, hi, hv⟩ := List.mem_filterMap.mp hq
  have hi := List.mem_range.mp hi
  cases hx : ls.getD i none with
  | none => rw [hx] at hv; cases hv
  | some v =>
    rw [hx] at hv
    cases hv
    refine h.2.2 i v ?_
    rw [List.getD_eq_getElem?_getD, List.getElem?_eq_getElem hi] at hx
    rw [List.getElem?_eq_getElem hi]
    exact congrArg some hx
theorem mil_cat (b : Nat) (v : mV) : (mden b v).category = 2 → mil (some v) = true := by
  rcases v with a | a | (_ | a)
  · intro h; cases h
  · intro h; rfl
  · intro h; cases h
  · intro h; cases h
theorem mst_of {b n i : Nat} {la la' : Array Slot} {ls : mL} {v : mV} (h : mLs b la n ls) (h' : lv_has la' n ((i, mden b v) :: ((List.range ls.length).filterMap (fun j => (ls.getD j none).map (fun v => (j, mden b v)))).filter (fun q => !(q.1 == i) && !(q.1 + 1 == i && q.2.category == 2)))) : mLs b la' n (mst ls i v) := by
  refine ⟨h'.1, h'.2.1, fun j w hj => ?_⟩
  have hlen : (mst ls i v).length = ls.length := by
    unfold mst
    cases i with
    | zero => simp
    | succ i => simp only [List.length_set]; cases mil ((ls[i]?).getD none) <;> simp
  have hjl : j < ls.length := by rw [← hlen]; exact (List.getElem?_eq_some_iff.mp hj).1
  by_cases hji : j = i
  · subst hji
    have e : w = v := by
      unfold mst at hj
      rw [List.getElem?_set_self (by
        cases j with
        | zero => exact hjl
        | succ j =>
          cases hm : mil ((ls[j]?).getD none) with
          | true => simp only [hm, cond_true, List.length_set]; exact hjl
          | false => simp only [hm, cond_false]; exact hjl)] at hj
      exact (Option.some.inj (Option.some.inj hj)).symm
    subst e
    exact h'.2.2 _ List.mem_cons_self
  · have hold : ls[j]? = some (some w) ∧ ¬ (j + 1 = i ∧ mil (some w) = true) := by
      unfold mst at hj
      rw [List.getElem?_set_ne (Ne.symm hji)] at hj
      cases i with
      | zero => exact ⟨hj, by omega⟩
      | succ i =>
        by_cases hjj : j = i
        · subst hjj
          cases hm : mil ((ls[j]?).getD none) with
          | true =>
            simp only [hm, cond_true] at hj
            rw [List.getElem?_set_self hjl] at hj
            cases hj
          | false =>
            simp only [hm, cond_false] at hj
            refine ⟨hj, fun q => ?_⟩
            rw [hj] at hm
            simp only [Option.getD_some] at hm
            rw [q.2] at hm
            cases hm
        · have hne : ¬ j + 1 = i + 1 := by omega
          refine ⟨?_, fun q => hne q.1⟩
          cases hm : mil ((ls[i]?).getD none) with
          | true =>
            simp only [hm, cond_true] at hj
            rw [List.getElem?_set_ne (Ne.symm hjj)] at hj
            exact hj
          | false =>
            simp only [hm, cond_false] at hj
            exact hj
    refine h'.2.2 (j, mden b w) (List.mem_cons_of_mem _ (List.mem_filter.mpr ⟨List.mem_filterMap.mpr ⟨j, List.mem_range.mpr hjl, ?_⟩, ?_⟩))
    · rw [List.getD_eq_getElem?_getD, hold.1]
      rfl
    · simp only [Bool.and_eq_true, Bool.not_eq_true', beq_eq_false_iff_ne, ne_eq, Bool.and_eq_false_iff]
      refine ⟨hji, ?_⟩
      by_cases h1 : j + 1 = i
      · right
        intro h2
        exact hold.2 ⟨h1, mil_cat b w h2⟩
      · left
        exact h1
theorem q_istore_n {k : Fin 4} {i : Nat} {a : Int} {ls' : mL} (d : decode M.2.1 pc = .ok (.istore_n k, 1)) (hi : (k : Nat) = i) (hn : i < M.2.2.1) (e : mst ls i (mi a) = ls') : mGo Z M pc ls (mi a :: st) h (pc + 1) ls' st h :=
  mGo.pu fun b p l e R s m args below meth c H locs cells slots Q la hx hb ho ht hl k => lv_istore_n hx hb d hi (mLs_as hl) hn rfl (fun la' h' => k la' (by rw [← ‹mst ls i (mi a) = ls'›]; exact mst_of hl h'))
theorem q_istore {i : Nat} {a : Int} {ls' : mL} (d : decode M.2.1 pc = .ok (.istore i, 2)) (hn : i < M.2.2.1) (e : mst ls i (mi a) = ls') : mGo Z M pc ls (mi a :: st) h (pc + 2) ls' st h :=
  mGo.pu fun b p l e R s m args below meth c H locs cells slots Q la hx hb ho ht hl k => lv_istore hx hb d (mLs_as hl) hn rfl (fun la' h' => k la' (by rw [← ‹mst ls i (mi a) = ls'›]; exact mst_of hl h'))
theorem q_astore_n {k : Fin 4} {i a : Nat} {ls' : mL} (d : decode M.2.1 pc = .ok (.astore_n k, 1)) (hi : (k : Nat) = i) (hn : i < M.2.2.1) (e : mst ls i (mr a) = ls') : mGo Z M pc ls (mr a :: st) h (pc + 1) ls' st h :=
  mGo.pu fun b p l e R s m args below meth c H locs cells slots Q la hx hb ho ht hl k => lv_astore_n hx hb d hi (mLs_as hl) hn rfl (fun la' h' => k la' (by rw [← ‹mst ls i (mr a) = ls'›]; exact mst_of (v := mr a) hl h'))
theorem q_astore {i a : Nat} {ls' : mL} (d : decode M.2.1 pc = .ok (.astore i, 2)) (hn : i < M.2.2.1) (e : mst ls i (mr a) = ls') : mGo Z M pc ls (mr a :: st) h (pc + 2) ls' st h :=
  mGo.pu fun b p l e R s m args below meth c H locs cells slots Q la hx hb ho ht hl k => lv_astore hx hb d (mLs_as hl) hn rfl (fun la' h' => k la' (by rw [← ‹mst ls i (mr a) = ls'›]; exact mst_of (v := mr a) hl h'))
theorem lv_fewer {la : Array Slot} {n : Nat} {l l' : List (Nat × Value)} (h : lv_has la n l) (hs : ∀ q ∈ l', q ∈ l) : lv_has la n l' := ⟨h.1, h.2.1, fun q hq => h.2.2 q (hs q hq)⟩
def mst2 (ls : mL) (i : Nat) (v : mV) : mL := mst (ls.set (i + 1) none) i v
theorem mst2_of {b n i : Nat} {la la' : Array Slot} {ls : mL} {v : mV} (h : mLs b la n ls) (h' : lv_has la' n ((i, mden b v) :: ((List.range ls.length).filterMap (fun j => (ls.getD j none).map (fun v => (j, mden b v)))).filter (fun q => !(q.1 == i) && (!(q.1 == i + 1) && !(q.1 + 1 == i && q.2.category == 2))))) : mLs b la' n (mst2 ls i v) := by
  have h2 : mLs b la n (ls.set (i + 1) none) := by
    refine ⟨h.1, h.2.1, fun j w hj => ?_⟩
    by_cases hji : i + 1 = j
    · subst hji
      by_cases hl : i + 1 < ls.length
      · rw [List.getElem?_set_self hl] at hj; cases hj
      · rw [List.getElem?_eq_none (by simp; omega)] at hj; cases hj
    · rw [List.getElem?_set_ne hji] at hj
      exact h.2.2 j w hj
  refine mst_of h2 (lv_fewer h' (fun q hq => ?_))
  rcases List.mem_cons.mp hq with rfl | hq
  · exact List.mem_cons_self
  · refine List.mem_cons_of_mem _ ?_
    obtain ⟨hq1, hq2⟩ := List.mem_filter.mp hq
    obtain ⟨j, hj, hv⟩ := List.mem_filterMap.mp hq1
    have hj := List.mem_range.mp hj
    rw [List.length_set] at hj
    by_cases hji : i + 1 = j
    · subst hji
      rw [List.getD_eq_getElem?_getD, List.getElem?_set_self hj] at hv
      cases hv
    · rw [List.getD_eq_getElem?_getD, List.getElem?_set_ne hji, ← List.getD_eq_getElem?_getD] at hv
      refine List.mem_filter.mpr ⟨List.mem_filterMap.mpr ⟨j, List.mem_range.mpr hj, hv⟩, ?_⟩
      have hq0 : q.1 = j := by
        cases hx : ls.getD j none with
        | none => rw [hx] at hv; cases hv
        | some w => rw [hx] at hv; cases hv; rfl
      simp only [Bool.and_eq_true] at hq2 ⊢
      refine ⟨hq2.1, ?_, hq2.2⟩
      rw [hq0]
      simp only [Bool.not_eq_true', beq_eq_false_iff_ne, ne_eq]
      omega
theorem q_lstore_n {k : Fin 4} {i : Nat} {a : Int} {ls' : mL} (d : decode M.2.1 pc = .ok (.lstore_n k, 1)) (hi : (k : Nat) = i) (hn : i + 1 < M.2.2.1) (e : mst2 ls i (ml a) = ls') : mGo Z M pc ls (ml a :: st) h (pc + 1) ls' st h :=
  mGo.pu fun b p l e R s m args below meth c H locs cells slots Q la hx hb ho ht hl k => lv_lstore_n hx hb d hi (mLs_as hl) hn rfl (fun la' h' => k la' (by rw [← ‹mst2 ls i (ml a) = ls'›]; exact mst2_of hl h'))
theorem q_lstore {i : Nat} {a : Int} {ls' : mL} (d : decode M.2.1 pc = .ok (.lstore i, 2)) (hn : i + 1 < M.2.2.1) (e : mst2 ls i (ml a) = ls') : mGo Z M pc ls (ml a :: st) h (pc + 2) ls' st h :=
  mGo.pu fun b p l e R s m args below meth c H locs cells slots Q la hx hb ho ht hl k => lv_lstore hx hb d (mLs_as hl) hn rfl (fun la' h' => k la' (by rw [← ‹mst2 ls i (ml a) = ls'›]; exact mst2_of hl h'))
theorem q_iinc {i : Nat} {n a : Int} {ls' : mL} (d : decode M.2.1 pc = .ok (.iinc i n, 3)) (hv : ls[i]? = some (some (mi a))) (hn : i < M.2.2.1) (e : mst ls i (mi (a + n)) = ls') : mGo Z M pc ls st h (pc + 3) ls' st h :=
  mGo.pu fun b p l e R s m args below meth c H locs cells slots Q la hx hb ho ht hl k => by
    have hm : (i, Value.int (Int32.ofInt a)) ∈ (List.range ls.length).filterMap (fun j => (ls.getD j none).map (fun v => (j, mden b v))) :=
      List.mem_filterMap.mpr ⟨i, List.mem_range.mpr (List.getElem?_eq_some_iff.mp hv).1, by rw [List.getD_eq_getElem?_getD, hv]; rfl⟩
    obtain ⟨j, hj⟩ := List.getElem?_of_mem hm
    exact lv_iinc (k := j) (v := Int32.ofInt (a + n)) hx hb d (mLs_as hl) hj (Int32.ofInt_add a n).symm hn rfl (fun la' h' => k la' (by rw [← ‹mst ls i (mi (a + n)) = ls'›]; exact mst_of (v := mi (a + n)) hl h'))
/-! the stack -/
theorem cat1 (b : Nat) (a : Int) : (mden b (mi a)).category = 1 := rfl
theorem cat1o (b : Nat) (a : Option Nat) : (mden b (mo a)).category = 1 := by cases a <;> rfl
theorem q_dup {v : mV} (d : decode M.2.1 pc = .ok (.dup, 1)) (hv : mil (some v) = false) : mGo Z M pc ls (v :: st) h (pc + 1) ls (v :: v :: st) h :=
  mGo.pu fun b p l e R s m args below meth c H locs cells slots Q la hx hb ho ht hl k => lv_dup hx hb d (mden_cat1 b v (fun a q => by subst q; cases hv)) (k la hl)
theorem q_pop {v : mV} (d : decode M.2.1 pc = .ok (.pop, 1)) (hv : mil (some v) = false) : mGo Z M pc ls (v :: st) h (pc + 1) ls st h :=
  mGo.pu fun b p l e R s m args below meth c H locs cells slots Q la hx hb ho ht hl k => lv_pop hx hb d (mden_cat1 b v (fun a q => by subst q; cases hv)) (k la hl)
theorem q_dup2 {v w : mV} (d : decode M.2.1 pc = .ok (.dup2, 1)) (hv : mil (some v) = false) (hw : mil (some w) = false) : mGo Z M pc ls (v :: w :: st) h (pc + 1) ls (v :: w :: v :: w :: st) h :=
  mGo.pu fun b p l e R s m args below meth c H locs cells slots Q la hx hb ho ht hl k => lv_dup2_11 hx hb d (mden_cat1 b v (fun a q => by subst q; cases hv)) (mden_cat1 b w (fun a q => by subst q; cases hw)) (k la hl)
/-! arithmetic -/
theorem q_iadd {x y : Int} (d : decode M.2.1 pc = .ok (.iadd, 1)) : mGo Z M pc ls (mi y :: mi x :: st) h (pc + 1) ls (mi (x + y) :: st) h :=
  mGo.pu fun b p l e R s m args below meth c H locs cells slots Q la hx hb ho ht hl k => lv_iadd hx hb d (by rw [← Int32.ofInt_add]; exact k la hl)
theorem q_isub {x y : Int} (d : decode M.2.1 pc = .ok (.isub, 1)) : mGo Z M pc ls (mi y :: mi x :: st) h (pc + 1) ls (mi (x - y) :: st) h :=
  mGo.pu fun b p l e R s m args below meth c H locs cells slots Q la hx hb ho ht hl k => lv_isub hx hb d (by rw [← Int32.ofInt_sub]; exact k la hl)
theorem q_imul {x y : Int} (d : decode M.2.1 pc = .ok (.imul, 1)) : mGo Z M pc ls (mi y :: mi x :: st) h (pc + 1) ls (mi (x * y) :: st) h :=
  mGo.pu fun b p l e R s m args below meth c H locs cells slots Q la hx hb ho ht hl k => lv_imul hx hb d (by rw [← Int32.ofInt_mul]; exact k la hl)
theorem q_ladd {x y : Int} (d : decode M.2.1 pc = .ok (.ladd, 1)) : mGo Z M pc ls (ml y :: ml x :: st) h (pc + 1) ls (ml (x + y) :: st) h :=
  mGo.pu fun b p l e R s m args below meth c H locs cells slots Q la hx hb ho ht hl k => lv_ladd hx hb d (by rw [← Int64.ofInt_add]; exact k la hl)
theorem q_lmul {x y : Int} (d : decode M.2.1 pc = .ok (.lmul, 1)) : mGo Z M pc ls (ml y :: ml x :: st) h (pc + 1) ls (ml (x * y) :: st) h :=
  mGo.pu fun b p l e R s m args below meth c H locs cells slots Q la hx hb ho ht hl k => lv_lmul hx hb d (by rw [← Int64.ofInt_mul]; exact k la hl)
theorem nz32 {y : Int} (hy : 0 < y ∧ y < 2147483648) : ¬ Int32.ofInt y = 0 := by
  intro q
  have := congrArg Int32.toInt q
  rw [o32 ⟨by omega, hy.2⟩] at this
  have z : (0 : Int32).toInt = 0 := rfl
  omega
theorem nz64 {y : Int} (hy : 0 < y ∧ y < 9223372036854775808) : ¬ Int64.ofInt y = 0 := by
  intro q
  have := congrArg Int64.toInt q
  rw [o64 ⟨by omega, hy.2⟩] at this
  have z : (0 : Int64).toInt = 0 := rfl
  omega
theorem bmod_self {a : Int} {n : Nat} (h1 : -((n : Int) / 2) ≤ a) (h2 : a < ((n : Int) + 1) / 2) : a.bmod n = a := Int.bmod_eq_of_le h1 h2
theorem div32 {x y : Int} (hx : 0 ≤ x ∧ x < 2147483648) (hy : 0 < y ∧ y < 2147483648) : Int32.ofInt x / Int32.ofInt y = Int32.ofInt (x / y) := by
  have e1 := o32 (a := x) ⟨by omega, hx.2⟩
  have e2 := o32 (a := y) ⟨by omega, hy.2⟩
  have q1 : 0 ≤ x / y := Int.ediv_nonneg hx.1 (by omega)
  have q2 : x / y ≤ x := Int.ediv_le_self _ hx.1
  apply Int32.toInt_inj.mp
  rw [Int32.toInt_div, e1, e2, o32 ⟨by omega, by omega⟩, Int.tdiv_eq_ediv_of_nonneg hx.1]
  exact bmod_self (by omega) (by omega)
theorem div64 {x y : Int} (hx : 0 ≤ x ∧ x < 9223372036854775808) (hy : 0 < y ∧ y < 9223372036854775808) : Int64.ofInt x / Int64.ofInt y = Int64.ofInt (x / y) := by
  have e1 := o64 (a := x) ⟨by omega, hx.2⟩
  have e2 := o64 (a := y) ⟨by omega, hy.2⟩
  have q1 : 0 ≤ x / y := Int.ediv_nonneg hx.1 (by omega)
  have q2 : x / y ≤ x := Int.ediv_le_self _ hx.1
  apply Int64.toInt_inj.mp
  rw [Int64.toInt_div, e1, e2, o64 ⟨by omega, by omega⟩, Int.tdiv_eq_ediv_of_nonneg hx.1]
  exact bmod_self (by omega) (by omega)
theorem q_idiv {x y : Int} (d : decode M.2.1 pc = .ok (.idiv, 1)) (hx : 0 ≤ x ∧ x < 2147483648) (hy : 0 < y ∧ y < 2147483648) : mGo Z M pc ls (mi y :: mi x :: st) h (pc + 1) ls (mi (x / y) :: st) h :=
  mGo.pu fun b p l e R s m args below meth c H locs cells slots Q la hxx hb ho ht hl k => lv_idiv hxx hb d (nz32 hy) (by rw [div32 hx hy]; exact k la hl)
theorem q_irem {x y : Int} (d : decode M.2.1 pc = .ok (.irem, 1)) (hx : 0 ≤ x ∧ x < 2147483648) (hy : 0 < y ∧ y < 2147483648) : mGo Z M pc ls (mi y :: mi x :: st) h (pc + 1) ls (mi (x % y) :: st) h :=
  mGo.pu fun b p l e R s m args below meth c H locs cells slots Q la hxx hb ho ht hl k => lv_irem hxx hb d (nz32 hy) (by
    rw [div32 hx hy, ← Int32.ofInt_mul, ← Int32.ofInt_sub, show x - x / y * y = x % y by rw [Int.emod_def, Int.mul_comm]]
    exact k la hl)
theorem q_ldiv {x y : Int} (d : decode M.2.1 pc = .ok (.ldiv, 1)) (hx : 0 ≤ x ∧ x < 9223372036854775808) (hy : 0 < y ∧ y < 9223372036854775808) : mGo Z M pc ls (ml y :: ml x :: st) h (pc + 1) ls (ml (x / y) :: st) h :=
  mGo.pu fun b p l e R s m args below meth c H locs cells slots Q la hxx hb ho ht hl k => lv_ldiv hxx hb d (nz64 hy) (by rw [div64 hx hy]; exact k la hl)
theorem q_lrem {x y : Int} (d : decode M.2.1 pc = .ok (.lrem, 1)) (hx : 0 ≤ x ∧ x < 9223372036854775808) (hy : 0 < y ∧ y < 9223372036854775808) : mGo Z M pc ls (ml y :: ml x :: st) h (pc + 1) ls (ml (x % y) :: st) h :=
  mGo.pu fun b p l e R s m args below meth c H locs cells slots Q la hxx hb ho ht hl k => lv_lrem hxx hb d (nz64 hy) (by
    rw [div64 hx hy, ← Int64.ofInt_mul, ← Int64.ofInt_sub, show x - x / y * y = x % y by rw [Int.emod_def, Int.mul_comm]]
    exact k la hl)
theorem q_i2l {x : Int} (d : decode M.2.1 pc = .ok (.i2l, 1)) (hx : -2147483648 ≤ x ∧ x < 2147483648) : mGo Z M pc ls (mi x :: st) h (pc + 1) ls (ml x :: st) h :=
  mGo.pu fun b p l e R s m args below meth c H locs cells slots Q la hxx hb ho ht hl k => lv_i2l hxx hb d (v := Int64.ofInt x) (by
    apply Int64.toInt_inj.mp
    rw [Int32.toInt_toInt64, o32 hx, o64 ⟨by omega, by omega⟩]) (k la hl)
theorem q_l2i {x : Int} (d : decode M.2.1 pc = .ok (.l2i, 1)) : mGo Z M pc ls (ml x :: st) h (pc + 1) ls (mi x :: st) h :=
  mGo.pu fun b p l e R s m args below meth c H locs cells slots Q la hxx hb ho ht hl k => lv_l2i hxx hb d (v := Int32.ofInt x) Int64.toInt32_ofInt (k la hl)
/-- bits as the machine has them -/
def mand (x y : Int) : Int := (Int32.ofInt x &&& Int32.ofInt y).toInt
def mor (x y : Int) : Int := (Int32.ofInt x ||| Int32.ofInt y).toInt
def mshl (x y : Int) : Int := (Int32.ofInt x <<< (Int32.ofInt y &&& 31)).toInt
def mshr (x y : Int) : Int := (Int32.ofInt x >>> (Int32.ofInt y &&& 31)).toInt
theorem q_iand {x y : Int} (d : decode M.2.1 pc = .ok (.iand, 1)) : mGo Z M pc ls (mi y :: mi x :: st) h (pc + 1) ls (mi (mand x y) :: st) h :=
  mGo.pu fun b p l e R s m args below meth c H locs cells slots Q la hx hb ho ht hl k => lv_iand hx hb d (by rw [← Int32.ofInt_toInt (_ &&& _)]; exact k la hl)
theorem q_ior {x y : Int} (d : decode M.2.1 pc = .ok (.ior, 1)) : mGo Z M pc ls (mi y :: mi x :: st) h (pc + 1) ls (mi (mor x y) :: st) h :=
  mGo.pu fun b p l e R s m args below meth c H locs cells slots Q la hx hb ho ht hl k => lv_ior hx hb d (by rw [← Int32.ofInt_toInt (_ ||| _)]; exact k la hl)
theorem q_ishl {x y : Int} (d : decode M.2.1 pc = .ok (.ishl, 1)) : mGo Z M pc ls (mi y :: mi x :: st) h (pc + 1) ls (mi (mshl x y) :: st) h :=
  mGo.pu fun b p l e R s m args below meth c H locs cells slots Q la hx hb ho ht hl k => lv_ishl hx hb d (by rw [← Int32.ofInt_toInt (_ <<< _)]; exact k la hl)
theorem q_ishr {x y : Int} (d : decode M.2.1 pc = .ok (.ishr, 1)) : mGo Z M pc ls (mi y :: mi x :: st) h (pc + 1) ls (mi (mshr x y) :: st) h :=
  mGo.pu fun b p l e R s m args below meth c H locs cells slots Q la hx hb ho ht hl k => lv_ishr hx hb d (by rw [← Int32.ofInt_toInt (_ >>> _)]; exact k la hl)
def mcmp (x y : Int) : Int := if y < x then 1 else if x = y then 0 else -1
theorem q_lcmp {x y : Int} (d : decode M.2.1 pc = .ok (.lcmp, 1)) (hx : -9223372036854775808 ≤ x ∧ x < 9223372036854775808) (hy : -9223372036854775808 ≤ y ∧ y < 9223372036854775808) : mGo Z M pc ls (ml y :: ml x :: st) h (pc + 1) ls (mi (mcmp x y) :: st) h :=
  mGo.pu fun b p l e R s m args below meth c H locs cells slots Q la hxx hb ho ht hl k => W.lcmp hxx hb d (by
    have e : lg_cmp (Int64.ofInt x) (Int64.ofInt y) = Int32.ofInt (mcmp x y) := by
      unfold lg_cmp mcmp
      simp only [gt_iff_lt, Int64.lt_iff_toInt_lt, ← Int64.toInt_inj, o64 hx, o64 hy]
      by_cases h1 : y < x
      · rw [if_pos h1, if_pos h1]; rfl
      · rw [if_neg h1, if_neg h1]
        by_cases h2 : x = y
        · rw [if_pos h2, if_pos h2]; rfl
        · rw [if_neg h2, if_neg h2]; rfl
    rw [e]
    exact k la hl)
/-! ways -/
theorem q_goto {off : Int} {tgt : Nat} (d : decode M.2.1 pc = .ok (.goto off, 3)) (ht : (pc : Int) + off = (tgt : Int)) : mGo Z M pc ls st h tgt ls st h :=
  mGo.pu fun b p l e R s m args below meth c H locs cells slots Q la hx hb ho hw hl k => lv_goto hx hb d ht (k la hl)
end OPS
