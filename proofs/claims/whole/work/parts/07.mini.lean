/-! ===== THE SMALL MACHINE: values are integers (an int or a long stands for its residue), references count from the base; a heap is a list of cells' shapes and a table of their integers ===== -/
abbrev mV : Type := Int ⊕ Int ⊕ Option Nat
abbrev mi (a : Int) : mV := .inl a
abbrev ml (a : Int) : mV := .inr (.inl a)
abbrev mo (a : Option Nat) : mV := .inr (.inr a)
abbrev mr (a : Nat) : mV := .inr (.inr (some a))
abbrev mC : Type := (Nat × List (Option (Option Nat))) ⊕ Nat ⊕ (Nat × List (Option Nat))
abbrev mI : Type := Nat → Nat → Int
abbrev mH : Type := List mC × mI
abbrev mL : Type := List (Option mV)
abbrev mM : Type := MethodName × ByteArray × Nat × Option FieldType × Nat × Nat
abbrev mP : Type := Nat × (Nat → ClassId)
def mcl : List vw_C := [(RX0, TX0, 4), (RX1, TX1, 8), (RX2, TX2, 3), (RX3, TX3, 1), (RX4, TX4, 2), (RX5, TX5, 2), (RX6, TX6, 6), (RX7, TX7, 2), (RX8, TX8, 14), (RX9, TX9, 30)]
def mtys (P : mP) : List (ClassId × FieldType) := [(P.2 0, .int), (P.2 1, .object RX6), (P.2 2, .object RX0)]
def gtbl : List Cond := lw_tbl.filter goodWord
theorem g_in {w : Cond} (h : w ∈ lw_tbl) (hg : goodWord w = true) : w ∈ gtbl := List.mem_filter.mpr ⟨h, hg⟩
theorem g_good {w : Cond} (h : w ∈ gtbl) : (w.onTables && w.keeps) = true ∨ ∃ ty, w = .arrayClass ty := good_of_word (List.mem_filter.mp h).2
def mden (b : Nat) : mV → Value
  | .inl a => .int (Int32.ofInt a)
  | .inr (.inl a) => .long (Int64.ofInt a)
  | .inr (.inr o) => va_rf (o.map (fun r => b + r))
def mfl (b : Nat) (J : Nat → Int) (k : Nat) : Option (Option Nat) → Value
  | none => .int (Int32.ofInt (J k))
  | some o => va_rf (o.map (fun r => b + r))
def mce (P : mP) (J : Nat → Int) : mC → va_E
  | .inl (ci, fs) => .inr (ci, fs.mapIdx (fun k f => mfl P.1 J k f))
  | .inr (.inl n) => .inl (P.2 0, n, .inl (fun j => Int32.ofInt (J j)))
  | .inr (.inr (t, rs)) => .inl (P.2 t, rs.length, .inr (.inr (.inr (.inr (fun j => (rs.getD j none).map (fun r => P.1 + r))))))
def msz : mC → Nat
  | .inl (_, fs) => fs.length
  | .inr (.inl n) => n
  | .inr (.inr (_, rs)) => rs.length
def mS (h : mH) : Nat := (h.1.map msz).sum
def mRz (P : mP) (D : va_G) (h : mH) (H : Heap) : Prop := H.size = P.1 + h.1.length ∧ ∀ (k : Nat) (c : mC), h.1[k]? = some c → va_at D mcl (P.1 + k, mce P (h.2 k) c) H
theorem mRz.one {P : mP} {D : va_G} {h : mH} {H : Heap} (hR : mRz P D h H) {k : Nat} {c : mC} (hk : h.1[k]? = some c) : va_P D mcl [(P.1 + k, mce P (h.2 k) c)] H := by
  intro i q hq
  cases i with
  | zero => cases hq; exact hR.2 k c hk
  | succ i => cases hq
def mAo (P : mP) : Nat → Prop := fun q => P.1 ≤ q
def mLs (b : Nat) (la : Array Slot) (n : Nat) (ls : mL) : Prop := la.size = n ∧ lv_wf la ∧ ∀ (i : Nat) (v : mV), ls[i]? = some (some v) → la[i]? = some (.val (mden b v))
/-- words that ride outside the tables' lists: nest mates, arrays of objects -/
def mNw : List Cond := [.methodLinkNest RX8 9 yX5_init RX8, .methodLinkNest RX8 18 yX2_init RX8, .methodLinkNest RX2 11 yX1_init RX8, .methodLinkNest RX0 26 yX6_init RX8, .methodLinkNest RX8 25 yX1_init RX8, .methodLinkNest RX8 64 yX6_init RX8, .methodLinkNest RX8 74 yX7_init RX8, .methodLinkNest RX2 67 yX8_figureOf RX8, .methodLinkNest RX2 70 yX8_within RX8, .methodLinkNest RX1 46 yX8_modulo RX8, .methodLinkNest RX7 38 yX8_hoursToEnter RX8]
/-- the class's own text: its letters, where it lies, and what the JDK's members ask of its statics -/
def mtxt : String := "r00123;r01110;r32010;r00130;d0;d1;d2;d3;x0,7,0;x0,13,3;x1,1,2;x2,11,0;x3,18,0;t0,19,0;t4,15,1;t15,4,2;t10,9,3;w1;"
def mbyt : List Int32 := [114, 48, 48, 49, 50, 51, 59, 114, 48, 49, 49, 49, 48, 59, 114, 51, 50, 48, 49, 48, 59, 114, 48, 48, 49, 51, 48, 59, 100, 48, 59, 100, 49, 59, 100, 50, 59, 100, 51, 59, 120, 48, 44, 55, 44, 48, 59, 120, 48, 44, 49, 51, 44, 51, 59, 120, 49, 44, 49, 44, 50, 59, 120, 50, 44, 49, 49, 44, 48, 59, 120, 51, 44, 49, 56, 44, 48, 59, 116, 48, 44, 49, 57, 44, 48, 59, 116, 52, 44, 49, 53, 44, 49, 59, 116, 49, 53, 44, 52, 44, 50, 59, 116, 49, 48, 44, 57, 44, 51, 59, 119, 49, 59]
def mSF (P : mP) (q va : Nat) (U : State) (H : Heap) : Prop := vk_R RX8 82 mtxt q U ∧ vk_S 1 [113] [mbyt] (fun _ => q) (fun _ => va) (mAo P) U H ∧ va_Z "java/lang/String" "COMPACT_STRINGS" "Z" (.int 1) (mAo P) U H ∧ va_Zq "jdk/internal/util/Preconditions" "SIOOBE_FORMATTER" "Ljava/util/function/BiFunction;" (mAo P) U H
theorem mSF.next {P : mP} {q va : Nat} {s U : State} {H : Heap} {locs : List Loc} (h : mSF P q va s s.heap) (hS : va_S (mAo P) s.heap H locs) (hW : s.WarmedH U.vm) (hU : U.heap = H) : mSF P q va U U.heap := by
  subst hU
  exact ⟨h.1.warm hW, (h.2.1.kept hS.2.1).moved hW.alike, (h.2.2.1.kept hS.2.1).moved hW.alike, (h.2.2.2.kept hS.2.1).moved hW.alike⟩
theorem mSF.same {P : mP} {q va : Nat} {s U : State} (h : mSF P q va s s.heap) (hv : s.vm = U.vm) (hh : U.heap = s.heap) : mSF P q va U U.heap := by
  rw [hh]
  have a : s.vm.Alike U.vm := hv ▸ Vm.Alike.refl s.vm
  exact ⟨h.1.same hv.symm, h.2.1.moved a, h.2.2.1.moved a, h.2.2.2.moved a⟩
def mSt (P : mP) (U : State) (H : Heap) : Prop := ∃ q va : Nat, mSF P q va U H
def mEX (P : mP) (U : State) (H : Heap) : Prop := (∀ w ∈ mNw, va_Nw w U) ∧ va_AO RX6 U ∧ va_AO RX0 U ∧ mSt P U H
theorem mNw_warm {s U : State} (hW : s.WarmedH U.vm) : ∀ w ∈ mNw, va_Nw w s → va_Nw w U := by
  intro w hw h
  simp only [mNw, List.mem_cons, List.not_mem_nil, or_false] at hw
  rcases hw with rfl | rfl | rfl | rfl | rfl | rfl | rfl | rfl | rfl | rfl | rfl <;> exact va_Nw.warmM hW h
theorem mEX.next {P : mP} {s U : State} {H : Heap} {locs : List Loc} (h : mEX P s s.heap) (hS : va_S (mAo P) s.heap H locs) (hW : s.WarmedH U.vm) (hU : U.heap = H) : mEX P U U.heap :=
  ⟨fun w hw => mNw_warm hW w hw (h.1 w hw), h.2.1.moved hW.alike, h.2.2.1.moved hW.alike, h.2.2.2.elim fun q h2 => h2.elim fun va h3 => ⟨q, va, h3.next hS hW hU⟩⟩
theorem mEX.same {P : mP} {s U : State} (h : mEX P s s.heap) (hv : s.vm = U.vm) (hh : U.heap = s.heap) : mEX P U U.heap :=
  ⟨fun w hw => va_Nw.same (by
    simp only [mNw, List.mem_cons, List.not_mem_nil, or_false] at hw
    rcases hw with rfl | rfl | rfl | rfl | rfl | rfl | rfl | rfl | rfl | rfl | rfl <;> rfl) hv (h.1 w hw), h.2.1.moved (hv ▸ Vm.Alike.refl s.vm), h.2.2.1.moved (hv ▸ Vm.Alike.refl s.vm), h.2.2.2.elim fun q h2 => h2.elim fun va h3 => ⟨q, va, h3.same hv hh⟩⟩
def mCx (M : mM) (P : mP) (D : va_G) (p : Program) (R : Room) (s : State) (m : MethodId) (args : Array Value) (meth : Method) (c : Code) : Prop :=
  p.tables.exec = Jvm.exec ∧ c.code = M.2.1 ∧ c.maxLocals = M.2.2.1 ∧ s.vm.findClass M.1.cls = some m.cls ∧ meth.name = M.1.name ∧ (∀ w ∈ gtbl, w.before args s = true) ∧ va_K D mcl (mtys P) s ∧ mEX P s s.heap ∧ M.2.2.2.2.1 ≤ R.frames ∧ M.2.2.2.2.2 ≤ R.locals ∧ P.1 ≤ s.heap.size
abbrev mZ : Type := mP → Array Value → State → Prop
def mZt : mZ := fun _ _ _ => True
def mGm (M : mM) (P : mP) (D : va_G) (p : Program) (l : Launch) (e : Env) (R : Room) (s : State) (m : MethodId) (args : Array Value) (below : List Frame) (meth : Method) (c : Code) (Q : State → Prop) (c0 s0 : Nat) (pc : Nat) (ls : mL) (st : List mV) (h : mH) : Prop :=
  ∀ (H : Heap) (locs : List Loc) (la : Array Slot), mLs P.1 la M.2.2.1 ls → mRz P D h H → va_S (mAo P) s.heap H locs → W p l e R s m args below meth c H locs (h.1.length - c0) (mS h - s0) Q (F0 m pc la (st.map (mden P.1)))
def mGo (Z : mZ) (M : mM) (pc : Nat) (ls : mL) (st : List mV) (h : mH) (pc' : Nat) (ls' : mL) (st' : List mV) (h' : mH) : Prop :=
  (h.1.length ≤ h'.1.length ∧ mS h ≤ mS h') ∧ ∀ (P : mP) (D : va_G) (p : Program) (l : Launch) (e : Env) (R : Room) (s : State) (m : MethodId) (args : Array Value) (below : List Frame) (meth : Method) (c : Code) (Q : State → Prop) (c0 s0 : Nat),
    mCx M P D p R s m args meth c → Z P args s → c0 ≤ h.1.length → s0 ≤ mS h → h'.1.length - c0 ≤ R.cells → mS h' - s0 ≤ R.slots →
    mGm M P D p l e R s m args below meth c Q c0 s0 pc' ls' st' h' → mGm M P D p l e R s m args below meth c Q c0 s0 pc ls st h
theorem mGo.rf {Z : mZ} {M : mM} {pc : Nat} {ls : mL} {st : List mV} {h : mH} : mGo Z M pc ls st h pc ls st h := ⟨⟨Nat.le_refl _, Nat.le_refl _⟩, fun _ _ _ _ _ _ _ _ _ _ _ _ _ _ _ _ _ _ _ _ _ k => k⟩
theorem mGo.tr {Z : mZ} {M : mM} {pc1 pc2 pc3 : Nat} {l1 l2 l3 : mL} {s1 s2 s3 : List mV} {h1 h2 h3 : mH} (a : mGo Z M pc1 l1 s1 h1 pc2 l2 s2 h2) (b : mGo Z M pc2 l2 s2 h2 pc3 l3 s3 h3) : mGo Z M pc1 l1 s1 h1 pc3 l3 s3 h3 := by
  refine ⟨⟨Nat.le_trans a.1.1 b.1.1, Nat.le_trans a.1.2 b.1.2⟩, ?_⟩
  intro P D p l e R s m args below meth c Q c0 s0 C hZ hc hs hC hS k
  have b1 := b.1
  have a1 := a.1
  exact a.2 P D p l e R s m args below meth c Q c0 s0 C hZ hc hs (by omega) (by omega) (b.2 P D p l e R s m args below meth c Q c0 s0 C hZ (by omega) (by omega) hC hS k)
def mRet (M : mM) (pc : Nat) : Option mV → Prop
  | none => decode M.2.1 pc = .ok (.return_, 1) ∧ M.2.2.2.1 = none
  | some (.inl a) => decode M.2.1 pc = .ok (.ireturn, 1) ∧ ∃ ty, M.2.2.2.1 = some ty ∧ narrow ty (.int (Int32.ofInt a)) = .int (Int32.ofInt a)
  | some (.inr (.inr _)) => decode M.2.1 pc = .ok (.areturn, 1) ∧ ∃ n, M.2.2.2.1 = some (.object n)
  | some (.inr (.inl _)) => False
def mRun (Z : mZ) (M : mM) (pc : Nat) (ls : mL) (st : List mV) (h : mH) (post : Option mV → mH → Prop) : Prop :=
  ∃ (pc' : Nat) (ls' : mL) (v : Option mV) (h' : mH), mGo Z M pc ls st h pc' ls' v.toList h' ∧ mRet M pc' v ∧ post v h'
theorem mRun.go {Z : mZ} {M : mM} {pc pc' : Nat} {ls ls' : mL} {st st' : List mV} {h h' : mH} {post : Option mV → mH → Prop} (a : mGo Z M pc ls st h pc' ls' st' h') (k : mRun Z M pc' ls' st' h' post) : mRun Z M pc ls st h post := by
  obtain ⟨p2, l2, v, h2, g, r, q⟩ := k
  exact ⟨p2, l2, v, h2, a.tr g, r, q⟩
theorem mRun.im {Z : mZ} {M : mM} {pc : Nat} {ls : mL} {st : List mV} {h : mH} {post post' : Option mV → mH → Prop} (k : mRun Z M pc ls st h post) (hi : ∀ v h', post v h' → post' v h') : mRun Z M pc ls st h post' := by
  obtain ⟨p2, l2, v, h2, g, r, q⟩ := k
  exact ⟨p2, l2, v, h2, g, r, hi _ _ q⟩
/-! contracts -/
def mwsM (M : mM) : List Cond := Cond.code M.1 M.2.1 M.2.2.1 M.2.2.2.1 :: gtbl
def mPc (P : mP) (D : va_G) (as : List mV) (h : mH) : Array Value → State → Prop := fun a U => a = (as.map (mden P.1)).toArray ∧ mRz P D h U.heap ∧ va_K D mcl (mtys P) U ∧ mEX P U U.heap
def mQc (P : mP) (D : va_G) (v : Option mV) (h' : mH) : Array Value → State → Outcome → State → Prop := fun _ st o t => o = .returned (v.map (mden P.1)) ∧ mRz P D h' t.heap ∧ va_F (mAo P) st t
def mCt (M : mM) (as : List mV) (h : mH) (v : Option mV) (h' : mH) : Prop :=
  (h.1.length ≤ h'.1.length ∧ mS h ≤ mS h') ∧ ∀ (l : Launch) (P : mP) (D : va_G), Met l M.1 (mwsM M) ({ frames := M.2.2.2.2.1, cells := h'.1.length - h.1.length, slots := mS h' - mS h, locals := M.2.2.2.2.2 }) (mPc P D as h) (mQc P D v h') (h'.1.length - h.1.length) (mS h' - mS h) (mAo P)
def mMt (M : mM) (as : List mV) (h : mH) (post : Option mV → mH → Prop) : Prop := ∃ (v : Option mV) (h' : mH), mCt M as h v h' ∧ post v h'
theorem mMt.im {M : mM} {as : List mV} {h : mH} {post post' : Option mV → mH → Prop} (k : mMt M as h post) (hi : ∀ v h', post v h' → post' v h') : mMt M as h post' := by
  obtain ⟨v, h2, g, q⟩ := k
  exact ⟨v, h2, g, hi _ _ q⟩
def mArgs : List mV → mL
  | [] => []
  | .inr (.inl a) :: vs => some (ml a) :: none :: mArgs vs
  | v :: vs => some v :: mArgs vs
theorem mden_cat1 (b : Nat) (v : mV) (h : ∀ a, v ≠ ml a) : (mden b v).category = 1 := by
  rcases v with a | a | (_ | a)
  · rfl
  · exact absurd rfl (h a)
  · rfl
  · rfl
theorem mArgs_in (b : Nat) : ∀ (vs : List mV) (i j : Nat) (v : mV), (mArgs vs)[j]? = some (some v) → (i + j, mden b v) ∈ lv_args i (vs.map (mden b)) := by
  intro vs
  induction vs with
  | nil => intro i j v h; simp [mArgs] at h
  | cons w vs ih =>
    intro i j v h
    rcases w with a | a | a
    · cases j with
      | zero => simp [mArgs] at h; subst h; exact List.mem_cons_self
      | succ j =>
        have h' : (mArgs vs)[j]? = some (some v) := by simpa [mArgs] using h
        have := ih (i + 1) j v h'
        simp only [List.map_cons, lv_args]
        refine List.mem_cons_of_mem _ ?_
        rw [if_neg (by rw [mden_cat1 b (.inl a) (fun x => by simp)]; decide)]
        rw [show i + (j + 1) = i + 1 + j by omega]
        exact this
    · cases j with
      | zero => simp [mArgs] at h; subst h; exact List.mem_cons_self
      | succ j =>
        cases j with
        | zero => simp [mArgs] at h
        | succ j =>
          have h' : (mArgs vs)[j]? = some (some v) := by simpa [mArgs] using h
          have := ih (i + 2) j v h'
          simp only [List.map_cons, lv_args]
          refine List.mem_cons_of_mem _ ?_
          rw [if_pos (show (mden b (.inr (.inl a))).category = 2 from rfl)]
          rw [show i + (j + 1 + 1) = i + 2 + j by omega]
          exact this
    · cases j with
      | zero => simp [mArgs] at h; subst h; exact List.mem_cons_self
      | succ j =>
        have h' : (mArgs vs)[j]? = some (some v) := by simpa [mArgs] using h
        have := ih (i + 1) j v h'
        simp only [List.map_cons, lv_args]
        refine List.mem_cons_of_mem _ ?_
        rw [if_neg (by rw [mden_cat1 b (.inr (.inr a)) (fun x => by simp)]; decide)]
        rw [show i + (j + 1) = i + 1 + j by omega]
        exact this
def mEnt (n : Nat) (as : List mV) : mL := mArgs as ++ List.replicate (n - (mArgs as).length) none
theorem mArgs_len (b : Nat) : ∀ vs : List mV, (lg_sl (vs.map (mden b))).length = (mArgs vs).length := by
  intro vs
  induction vs with
  | nil => rfl
  | cons w vs ih =>
    rcases w with a | a | a
    · simp [lg_sl, mArgs, mden_cat1 b (.inl a) (fun x => by simp)] at ih ⊢
      exact ih
    · simp [lg_sl, mArgs, show (mden b (.inr (.inl a))).category = 2 from rfl] at ih ⊢
      omega
    · simp [lg_sl, mArgs, mden_cat1 b (.inr (.inr a)) (fun x => by simp)] at ih ⊢
      exact ih
theorem mEnt_ls (b n : Nat) (as : List mV) (hn : (mArgs as).length ≤ n) : mLs b ((lg_sl (as.map (mden b)) ++ List.replicate (n - (lg_sl (as.map (mden b))).length) Slot.unset).toArray) n (mEnt n as) := by
  obtain ⟨h1, h2, h3⟩ := lv_entry (as.map (mden b)) (n := n) (by rw [mArgs_len]; exact hn)
  refine ⟨h1, h2, fun i v hi => ?_⟩
  have hj : (mArgs as)[i]? = some (some v) := by
    unfold mEnt at hi
    by_cases hl : i < (mArgs as).length
    · rw [List.getElem?_append_left hl] at hi; exact hi
    · rw [List.getElem?_append_right (by omega)] at hi
      have := List.eq_of_mem_replicate (List.mem_of_getElem? hi)
      cases this
  have := h3 _ (mArgs_in b as 0 i v hj)
  simpa using this
theorem mPc_blind {P : mP} {D : va_G} {as : List mV} {h : mH} : FrameBlind (mPc P D as h) := by
  intro a U g mk q
  obtain ⟨q1, q2, q3, q4⟩ := q
  exact ⟨q1, q2, va_K.moved (u := U) (U := U.calling g mk a) (Vm.Alike.refl U.vm) q3, mEX.same (s := U) (U := U.calling g mk a) q4 rfl rfl⟩
theorem mCt.of {M : mM} {as : List mV} {h h' : mH} {v : Option mV} {pc : Nat} {ls : mL} (hp : plainName M.1.cls = true) (hn : (mArgs as).length ≤ M.2.2.1) (hg : mGo mZt M 0 (mEnt M.2.2.1 as) [] h pc ls v.toList h') (hr : mRet M pc v) : mCt M as h v h' := by
  refine ⟨hg.1, fun l P D => ?_⟩
  refine Met.ofW (cc := M.2.1) (maxL := M.2.2.1) (ret := M.2.2.2.1) hp rfl ?_
  intro p e s m args below meth c s₁ B hml hv
  obtain ⟨rfl, hR, hK, hE⟩ := hv
  have hx := B.exec
  have hb := B.bytes
  have hrt := B.returns
  have hts := atoms_spec (ws := mwsM M) B.pre
  have hlocks := B.notSynchronized
  have hsz : P.1 ≤ s.heap.size := by rw [hR.1]; omega
  have X := hg.2 P D p l e (headSpec (mwsM M) ({ frames := M.2.2.2.2.1, cells := h'.1.length - h.1.length, slots := mS h' - mS h, locals := M.2.2.2.2.2 })).room s m (as.map (mden P.1)).toArray below meth c
    (MQ below (mQc P D v h') (as.map (mden P.1)).toArray s (h'.1.length - h.1.length) (mS h' - mS h) (mAo P)) h.1.length (mS h)
    ⟨hx, hb, hml, findClass_of_methodNamed B.named, (name_of_methodNamed B.named B.method).1, fun w hw => hts w (List.mem_cons_of_mem _ hw), hK, hE, Nat.le_refl _, Nat.le_refl _, hsz⟩ trivial (Nat.le_refl _) (Nat.le_refl _) (Nat.le_refl _) (Nat.le_refl _) ?_ s.heap [] _ (mEnt_ls P.1 M.2.2.1 as hn) hR va_S.rf
  · rw [lg_entry_eq]
    rw [Nat.sub_self, Nat.sub_self] at X
    exact X
  · intro H locs la hl hR' hS
    rcases v with _ | (a | a | a)
    · obtain ⟨d, hr2⟩ := hr
      exact W.vret hx hb (hrt.trans hr2) (fun t ht hW => ⟨rfl, by rw [ht]; exact hR', hS.F ht⟩) hS.2.2 d
    · obtain ⟨d, ty, hr2, hnar⟩ := hr
      exact W.zret hx hb (hrt.trans hr2) hnar (fun t ht hW => ⟨rfl, by rw [ht]; exact hR', hS.F ht⟩) hS.2.2 d
    · exact hr.elim
    · obtain ⟨d, n, hr2⟩ := hr
      refine W.aret hx hb (hrt.trans hr2) (Or.inl ⟨n, rfl⟩) (va_rf_or _) (fun t ht hW => ⟨rfl, by rw [ht]; exact hR', hS.F ht⟩) hS.2.2 d
theorem mMt.of {M : mM} {as : List mV} {h : mH} {post : Option mV → mH → Prop} (hp : plainName M.1.cls = true) (hn : (mArgs as).length ≤ M.2.2.1) (k : mRun mZt M 0 (mEnt M.2.2.1 as) [] h post) : mMt M as h post := by
  obtain ⟨p2, l2, v, h2, g, r, q⟩ := k
  exact ⟨v, h2, mCt.of hp hn g r, q⟩
