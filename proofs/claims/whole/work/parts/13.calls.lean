/-! ===== calls ===== -/
def mcat : mV → Nat
  | .inr (.inl _) => 2
  | _ => 1
def mwt (st : List mV) : Nat := (st.map mcat).sum
theorem mcat_den (b : Nat) (v : mV) : (mden b v).category = mcat v := by
  rcases v with a | a | (_ | a) <;> rfl
theorem mwt_den (b : Nat) : ∀ st : List mV, ((st.map (mden b)).map fun v => v.category).sum = mwt st := by
  intro st
  induction st with
  | nil => rfl
  | cons v st ih => simp only [List.map_cons, List.sum_cons, mwt] at ih ⊢; rw [ih, mcat_den]
/-- behind a call -/
theorem m_after {M : mM} {P : mP} {D : va_G} {p : Program} {l : Launch} {e : Env} {R : Room} {s : State} {m : MethodId} {args : Array Value} {below : List Frame} {meth : Method} {c : Code} {Q : State → Prop} {c0 s0 pc : Nat} {ls : mL} {rest : List mV} {h h2 : mH} {v : Option mV} {H : Heap} {locs : List Loc} {la : Array Slot} {st0 : List Value} {a : Array Value}
    (hr : va_Run p l e R s m args below meth c H locs (h.1.length - c0) (mS h - s0) (h2.1.length - h.1.length) (mS h2 - mS h) (F0 m pc la st0) (rest.map (mden P.1)) (mQc P D v h2 a) (mAo P)) (hV : va_S (mAo P) s.heap H locs) (hm : h.1.length ≤ h2.1.length ∧ mS h ≤ mS h2) (hc : c0 ≤ h.1.length) (hs : s0 ≤ mS h) (hl : mLs P.1 la M.2.2.1 ls)
    (k : mGm M P D p l e R s m args below meth c Q c0 s0 (pc + 3) ls (v.toList ++ rest) h2) : W p l e R s m args below meth c H locs (h.1.length - c0) (mS h - s0) Q (F0 m pc la st0) := by
  intro T hT X
  obtain ⟨v', st₀, t, T', L, h0, X', hL, e1, e2, ⟨hv, hR2, hF⟩, st⟩ := hr T hT X
  have hv' : v' = v.map (mden P.1) := Outcome.returned.inj hv
  subst hv'
  obtain ⟨hz, hk⟩ := hF
  rw [h0] at hz hk
  have ec : h.1.length - c0 + (h2.1.length - h.1.length) = h2.1.length - c0 := by omega
  have es : mS h - s0 + (mS h2 - mS h) = mS h2 - s0 := by omega
  rw [ec, es] at X'
  have e3 : (v.toList ++ rest).map (mden P.1) = (v.map (mden P.1)).toList ++ rest.map (mden P.1) := by cases v <;> rfl
  obtain ⟨t2, a1, b1⟩ := k T'.heap (locs ++ L) la hl (by rw [e1]; exact hR2)
    ⟨Nat.le_trans hV.1 (by rw [e1]; exact hz), fun q h1 h2 => by rw [e1, hk q (Nat.lt_of_lt_of_le h1 hV.1) h2]; exact hV.2.1 q h1 h2, fun q hq => by
      rcases List.mem_append.mp hq with h | h
      · exact hV.2.2 q h
      · exact hL q h⟩ T' rfl X'
  rw [e3] at a1
  exact ⟨t2, st t2 a1, b1⟩
/-- the linking of a call: by a word of the tables, or among nest mates -/
def mLk (own : String) (idx : Nat) (y : MethodName) : Prop := Cond.methodLink own idx y ∈ gtbl ∨ Cond.methodLinkNest own idx y RX8 ∈ mNw
def mOkB (own : String) (idx : Nat) (M2 : mM) (n : Nat) : Prop := Cond.initialized M2.1.cls ∈ gtbl ∧ Cond.code M2.1 M2.2.1 M2.2.2.1 M2.2.2.2.1 ∈ gtbl ∧ (M2.1.cls ≠ "java/lang/invoke/MethodHandle" ∧ M2.1.cls ≠ "java/lang/invoke/VarHandle") ∧ (parseMethodDescriptor M2.1.desc).map (fun d => d.parameters.length) = some n ∧ mLk own idx M2.1
def mFit (M M2 : mM) : Prop := M2.2.2.2.2.1 + 1 ≤ M.2.2.2.2.1 ∧ 8 + (M2.2.2.1 + 11) + M2.2.2.2.2.2 ≤ M.2.2.2.2.2
theorem m_words {s : State} {args : Array Value} {M2 : mM} (hts : ∀ w ∈ gtbl, w.before args s = true) (hc : Cond.code M2.1 M2.2.1 M2.2.2.1 M2.2.2.2.1 ∈ gtbl) : ∀ w ∈ mwsM M2, ∀ (a' : Array Value) (U : State), s.WarmedH U.vm → w.before a' U = true := by
  intro w hw a' U hW
  have hg : w ∈ gtbl := by
    rcases List.mem_cons.mp hw with rfl | hw
    · exact hc
    · exact hw
  exact word_at hW (g_good hg) (hts w hg)
theorem m_pre {P : mP} {D : va_G} {s : State} {H : Heap} {locs : List Loc} {as : List mV} {h : mH} (hK : va_K D mcl (mtys P) s) (hE : mEX P s s.heap) (hV : va_S (mAo P) s.heap H locs) (hR : mRz P D h H) : ∀ U : State, U.heap = H → s.WarmedH U.vm → mPc P D as h (as.map (mden P.1)).toArray U :=
  fun U hU hW => ⟨rfl, by rw [hU]; exact hR, va_K.moved hW.alike hK, hE.next hV hW hU⟩
section CALLS
variable {Z : mZ} {M M2 : mM} {pc : Nat} {ls : mL} {rest st : List mV} {h h2 : mH} {v : Option mV}
theorem m_len {y : MethodName} {n : Nat} (h2 : (parseMethodDescriptor y.desc).map (fun d => d.parameters.length) = some n) : ∀ sig, parseMethodDescriptor y.desc = some sig → n = sig.parameters.length := by
  intro sig h
  rw [h] at h2
  exact (Option.some.inj h2).symm
/-- a virtual call (a private method too) -/
theorem q_callV {idx r ci n : Nat} {fs : List (Option (Option Nat))} {q : vw_C} (as : List mV) (rest : List mV) (d : decode M.2.1 pc = .ok (.invokevirtual idx, 3)) (ok : mOkB M.1.cls idx M2 n) (fit : mFit M M2) (w1 : Cond.instanceMethod M2.1 ∈ gtbl) (w2 : Cond.selects M2.1.cls M2.1 M2.1 ∈ gtbl)
    (hs : st = as.reverse ++ mr r :: rest) (hr : h.1[r]? = some (.inl (ci, fs))) (hq : mcl[ci]? = some q) (hqc : q.1 = M2.1.cls) (hn : as.length = n) (hw : mwt rest ≤ 8) (hc : mCt M2 (mr r :: as) h v h2) : mGo Z M pc ls st h (pc + 3) ls (v.toList ++ rest) h2 := by
  subst hs
  refine ⟨hc.1, ?_⟩
  intro P D p l e R s m args below meth c Q c0 s0 C hZ hc0 hs0 hC hS k H locs la hl hR hV
  obtain ⟨k1, k2, k3, k4, k5⟩ := ok
  have hts := C.2.2.2.2.2.1
  have hK := C.2.2.2.2.2.2.1
  have hE := C.2.2.2.2.2.2.2.1
  have hfr : M.2.2.2.2.1 ≤ R.frames := C.2.2.2.2.2.2.2.2.1
  have hlo : M.2.2.2.2.2 ≤ R.locals := C.2.2.2.2.2.2.2.2.2.1
  obtain ⟨fr, lo⟩ := fit
  have hM := hc.2 l P D
  obtain ⟨q', h1, cell, g1, g2, g3, -⟩ := hR.2 r _ hr
  have hrecv : ∃ cellB : Cell, H[P.1 + r]? = some cellB ∧ cellB.vm.isStatics = false ∧ s.vm.findClass M2.1.cls = some cellB.cls := ⟨cell, g1, by rw [g3]; rfl, by rw [g2, ← hqc]; exact (hK.1 ci q hq).2.1⟩
  have hpre := m_pre (as := mr r :: as) hK hE hV hR
  have hstk : ((as.reverse ++ mr r :: rest).map (mden P.1)) = (as.map (mden P.1)).reverse ++ .ref (P.1 + r) :: rest.map (mden P.1) := by simp [mden, va_rf]
  have hfit : h.1.length - c0 + (h2.1.length - h.1.length) ≤ R.cells ∧ mS h - s0 + (mS h2 - mS h) ≤ R.slots := by have := hc.1; omega
  rcases k5 with k5 | k5
  · exact m_after (va_runV (Ts := gtbl) (As := as.map (mden P.1)) (rest := rest.map (mden P.1)) ⟨C.1, C.2.1, C.2.2.1, C.2.2.2.1, hts⟩ hM ⟨⟨rfl, rfl, by show M2.2.2.2.2.1 + 1 ≤ _; omega, by show 8 + _ + M2.2.2.2.2.2 ≤ _; omega, m_words hts k2, List.mem_cons_self, hts _ k2, hts _ k1, k3, m_len k4, hts _ k5⟩, hts _ w1, hts _ w2⟩ ⟨mPc_blind, hrecv, hpre⟩ rfl (by rw [List.length_map]; exact hn) hl.1 hstk (lv_room (by rw [mwt_den]; exact hw)) d hfit) hV hc.1 hc0 hs0 hl k
  · exact m_after (va_runVN (Ts := gtbl) (As := as.map (mden P.1)) (rest := rest.map (mden P.1)) (host := RX8) ⟨C.1, C.2.1, C.2.2.1, C.2.2.2.1, hts⟩ hM ⟨⟨⟨rfl, rfl, by show M2.2.2.2.2.1 + 1 ≤ _; omega, by show 8 + _ + M2.2.2.2.2.2 ≤ _; omega, m_words hts k2, List.mem_cons_self⟩, hts _ k2, hts _ k1, k3, m_len k4, va_Nw.use rfl (hE.1 _ k5)⟩, hts _ w1, hts _ w2⟩ ⟨mPc_blind, hrecv, hpre⟩ rfl (by rw [List.length_map]; exact hn) hl.1 hstk (lv_room (by rw [mwt_den]; exact hw)) d hfit) hV hc.1 hc0 hs0 hl k
/-- a static call -/
theorem q_callS {idx n : Nat} (as : List mV) (rest : List mV) (d : decode M.2.1 pc = .ok (.invokestatic idx, 3)) (ok : mOkB M.1.cls idx M2 n) (fit : mFit M M2) (w1 : Cond.static M2.1 ∈ gtbl)
    (hs : st = as.reverse ++ rest) (hn : as.length = n) (hw : mwt rest ≤ 8) (hc : mCt M2 as h v h2) : mGo Z M pc ls st h (pc + 3) ls (v.toList ++ rest) h2 := by
  subst hs
  refine ⟨hc.1, ?_⟩
  intro P D p l e R s m args below meth c Q c0 s0 C hZ hc0 hs0 hC hS k H locs la hl hR hV
  obtain ⟨k1, k2, k3, k4, k5⟩ := ok
  have hts := C.2.2.2.2.2.1
  have hK := C.2.2.2.2.2.2.1
  have hE := C.2.2.2.2.2.2.2.1
  have hfr : M.2.2.2.2.1 ≤ R.frames := C.2.2.2.2.2.2.2.2.1
  have hlo : M.2.2.2.2.2 ≤ R.locals := C.2.2.2.2.2.2.2.2.2.1
  obtain ⟨fr, lo⟩ := fit
  have hM := hc.2 l P D
  have hpre := m_pre (as := as) hK hE hV hR
  have hstk : ((as.reverse ++ rest).map (mden P.1)) = (as.map (mden P.1)).reverse ++ rest.map (mden P.1) := by simp
  have hfit : h.1.length - c0 + (h2.1.length - h.1.length) ≤ R.cells ∧ mS h - s0 + (mS h2 - mS h) ≤ R.slots := by have := hc.1; omega
  rcases k5 with k5 | k5
  · exact m_after (va_runS (Ts := gtbl) (As := as.map (mden P.1)) (rest := rest.map (mden P.1)) ⟨C.1, C.2.1, C.2.2.1, C.2.2.2.1, hts⟩ hM ⟨⟨rfl, rfl, by show M2.2.2.2.2.1 + 1 ≤ _; omega, by show 8 + _ + M2.2.2.2.2.2 ≤ _; omega, m_words hts k2, List.mem_cons_self, hts _ k2, hts _ k1, k3, m_len k4, hts _ k5⟩, hts _ w1⟩ ⟨mPc_blind, hpre⟩ rfl (by rw [List.length_map]; exact hn) hl.1 hstk (lv_room (by rw [mwt_den]; exact hw)) d hfit) hV hc.1 hc0 hs0 hl k
  · exact m_after (va_runSN (Ts := gtbl) (As := as.map (mden P.1)) (rest := rest.map (mden P.1)) (host := RX8) ⟨C.1, C.2.1, C.2.2.1, C.2.2.2.1, hts⟩ hM ⟨⟨⟨rfl, rfl, by show M2.2.2.2.2.1 + 1 ≤ _; omega, by show 8 + _ + M2.2.2.2.2.2 ≤ _; omega, m_words hts k2, List.mem_cons_self⟩, hts _ k2, hts _ k1, k3, m_len k4, va_Nw.use rfl (hE.1 _ k5)⟩, hts _ w1, trivial⟩ ⟨mPc_blind, hpre⟩ rfl (by rw [List.length_map]; exact hn) hl.1 hstk (lv_room (by rw [mwt_den]; exact hw)) d hfit) hV hc.1 hc0 hs0 hl k
/-- a constructor -/
theorem q_callI {idx r n : Nat} (as : List mV) (rest : List mV) (d : decode M.2.1 pc = .ok (.invokespecial idx, 3)) (ok : mOkB M.1.cls idx M2 n) (fit : mFit M M2) (w1 : Cond.instanceMethod M2.1 ∈ gtbl) (hnm : M2.1.name = "<init>") (hrt : M2.2.2.2.1 = none)
    (hs : st = as.reverse ++ mr r :: rest) (hn : as.length = n) (hw : mwt rest ≤ 8) (hc : mCt M2 (mr r :: as) h v h2) : mGo Z M pc ls st h (pc + 3) ls (v.toList ++ rest) h2 := by
  subst hs
  refine ⟨hc.1, ?_⟩
  intro P D p l e R s m args below meth c Q c0 s0 C hZ hc0 hs0 hC hS k H locs la hl hR hV
  obtain ⟨k1, k2, k3, k4, k5⟩ := ok
  have hts := C.2.2.2.2.2.1
  have hK := C.2.2.2.2.2.2.1
  have hE := C.2.2.2.2.2.2.2.1
  have hfr : M.2.2.2.2.1 ≤ R.frames := C.2.2.2.2.2.2.2.2.1
  have hlo : M.2.2.2.2.2 ≤ R.locals := C.2.2.2.2.2.2.2.2.2.1
  obtain ⟨fr, lo⟩ := fit
  have hM := hc.2 l P D
  have hpre := m_pre (as := mr r :: as) hK hE hV hR
  have hstk : ((as.reverse ++ mr r :: rest).map (mden P.1)) = (as.map (mden P.1)).reverse ++ .ref (P.1 + r) :: rest.map (mden P.1) := by simp [mden, va_rf]
  have hfit : h.1.length - c0 + (h2.1.length - h.1.length) ≤ R.cells ∧ mS h - s0 + (mS h2 - mS h) ≤ R.slots := by have := hc.1; omega
  have k2' : Cond.code M2.1 M2.2.1 M2.2.2.1 none ∈ mwsM M2 := by rw [← hrt]; exact List.mem_cons_self
  have k2'' : Cond.code M2.1 M2.2.1 M2.2.2.1 none ∈ gtbl := by rw [← hrt]; exact k2
  rcases k5 with k5 | k5
  · exact m_after (va_runI (Ts := gtbl) (bytes := M2.2.1) (maxL := M2.2.2.1) (As := as.map (mden P.1)) (rest := rest.map (mden P.1)) ⟨C.1, C.2.1, C.2.2.1, C.2.2.2.1, hts⟩ hM ⟨⟨rfl, rfl, by show M2.2.2.2.2.1 + 1 ≤ _; omega, by show 8 + _ + M2.2.2.2.2.2 ≤ _; omega, m_words hts k2, k2', hts _ k2'', hts _ k1, k3, m_len k4, hts _ k5⟩, hnm, hts _ w1⟩ ⟨mPc_blind, hpre⟩ rfl (by rw [List.length_map]; exact hn) hl.1 hstk (lv_room (by rw [mwt_den]; exact hw)) d hfit) hV hc.1 hc0 hs0 hl k
  · exact m_after (va_runIN (Ts := gtbl) (bytes := M2.2.1) (maxL := M2.2.2.1) (As := as.map (mden P.1)) (rest := rest.map (mden P.1)) (host := RX8) ⟨C.1, C.2.1, C.2.2.1, C.2.2.2.1, hts⟩ hM ⟨⟨⟨rfl, rfl, by show M2.2.2.2.2.1 + 1 ≤ _; omega, by show 8 + _ + M2.2.2.2.2.2 ≤ _; omega, m_words hts k2, k2'⟩, hts _ k2'', hts _ k1, k3, m_len k4, va_Nw.use rfl (hE.1 _ k5)⟩, hnm, hts _ w1⟩ ⟨mPc_blind, hpre⟩ rfl (by rw [List.length_map]; exact hn) hl.1 hstk (lv_room (by rw [mwt_den]; exact hw)) d hfit) hV hc.1 hc0 hs0 hl k
/-- Object() -/
theorem q_objInit {idx : Nat} {r : Nat} (d : decode M.2.1 pc = .ok (.invokespecial idx, 3)) (w1 : Cond.methodLink M.1.cls idx objectInit ∈ gtbl) (w2 : Cond.instanceMethod objectInit ∈ gtbl) (w3 : Cond.code objectInit ⟨#[0xb1]⟩ 1 none ∈ gtbl) (hf : 1 ≤ M.2.2.2.2.1) (hlo : 20 ≤ M.2.2.2.2.2) (hw : mwt st ≤ 8) : mGo Z M pc ls (mr r :: st) h (pc + 3) ls st h := by
  refine ⟨⟨Nat.le_refl _, Nat.le_refl _⟩, ?_⟩
  intro P D p l e R s m args below meth c Q c0 s0 C hZ hc0 hs0 hC hS k H locs la hl hR hV
  have hts := C.2.2.2.2.2.1
  have hfr : M.2.2.2.2.1 ≤ R.frames := C.2.2.2.2.2.2.2.2.1
  have hlo' : M.2.2.2.2.2 ≤ R.locals := C.2.2.2.2.2.2.2.2.2.1
  refine W.objInit C.1 C.2.1 C.2.2.2.1 (hts _ w1) (hts _ w2) (hts _ w3) rfl (by rw [C.2.2.1]; exact hl.1) (a := P.1 + r) (rest := st.map (mden P.1)) rfl d (by omega) ?_ (k H locs la hl hR hV)
  have : 2 * (F0 m pc la ((mr r :: st).map (mden P.1))).monitorRoom + ((st.map (mden P.1)).map fun v => v.category).sum ≤ 8 := lv_room (by rw [mwt_den]; exact hw)
  omega
/-- Math.min -/
theorem q_mmin {idx : Nat} {x y : Int} (d : decode M.2.1 pc = .ok (.invokestatic idx, 3)) (w1 : Cond.methodLink M.1.cls idx Lib.Math.min.name ∈ gtbl) (w2 : Cond.static Lib.Math.min.name ∈ gtbl) (w3 : Cond.initialized "java/lang/Math" ∈ gtbl) (w4 : Cond.code Lib.Math.min.name Lib.Math.min.code 2 (some .int) ∈ gtbl) (hf : 1 ≤ M.2.2.2.2.1) (hlo : 21 ≤ M.2.2.2.2.2) (hw : mwt st ≤ 8) (hx : -2147483648 ≤ x ∧ x < 2147483648) (hy : -2147483648 ≤ y ∧ y < 2147483648) : mGo Z M pc ls (mi y :: mi x :: st) h (pc + 3) ls (mi (if y < x then y else x) :: st) h := by
  refine ⟨⟨Nat.le_refl _, Nat.le_refl _⟩, ?_⟩
  intro P D p l e R s m args below meth c Q c0 s0 C hZ hc0 hs0 hC hS k H locs la hl hR hV
  have hts := C.2.2.2.2.2.1
  have hfr : M.2.2.2.2.1 ≤ R.frames := C.2.2.2.2.2.2.2.2.1
  have hlo' : M.2.2.2.2.2 ≤ R.locals := C.2.2.2.2.2.2.2.2.2.1
  have hwt : ((st.map (mden P.1)).map fun v => v.category).sum ≤ 8 := by rw [mwt_den]; exact hw
  have hC' : h.1.length - c0 ≤ R.cells := hC
  refine va_mmin C.1 C.2.1 (by rw [C.2.2.1]; exact hl.1.symm) C.2.2.2.1 (hts _ w1) (hts _ w2) (hts _ w3) (hts _ w4) (by omega) (by omega) hC' hS d ?_
  have K := k H locs la hl hR hV
  have e : (if Int32.ofInt y < Int32.ofInt x then Int32.ofInt y else Int32.ofInt x) = Int32.ofInt (if y < x then y else x) := by
    by_cases q : y < x
    · rw [if_pos q, if_pos ((o32_lt hy hx).mpr q)]
    · rw [if_neg q, if_neg (fun z => q ((o32_lt hy hx).mp z))]
  rw [e]
  exact K
end CALLS
/-- a table of integers with a stretch copied -/
def mcp (I : mI) (r1 r0 : Nat) (sp dp n : Nat) : mI := fun r k => if r = r1 then (if dp ≤ k ∧ k < dp + n then I r0 (sp + (k - dp)) else I r1 k) else I r k
section COPY
variable {Z : mZ} {M : mM} {pc : Nat} {ls : mL} {st : List mV} {σ : List mC} {I : mI}
theorem q_acopy {idx r0 r1 n0 n1 : Nat} {sp dp n : Int} (d : decode M.2.1 pc = .ok (.invokestatic idx, 3)) (w1 : Cond.methodLink M.1.cls idx arraycopyName ∈ gtbl) (w2 : Cond.native arraycopyName ∈ gtbl) (w3 : Cond.static arraycopyName ∈ gtbl) (w4 : Cond.initialized "java/lang/System" ∈ gtbl) (hf : 1 ≤ M.2.2.2.2.1) (hlo : 8 + (nativeFrameWords "java/lang/System" "arraycopy" 5 + 11) ≤ M.2.2.2.2.2) (hw : mwt st ≤ 8) (hne : r0 ≠ r1)
    (h0 : σ[r0]? = some (.inr (.inl n0))) (h1 : σ[r1]? = some (.inr (.inl n1))) (hsp : 0 ≤ sp) (hdp : 0 ≤ dp) (hn : 0 ≤ n) (hs : sp + n ≤ (n0 : Int)) (hd : dp + n ≤ (n1 : Int)) (hn0 : n0 < 1000000) (hn1 : n1 < 1000000) : mGo Z M pc ls (mi n :: mi dp :: mr r1 :: mi sp :: mr r0 :: st) (σ, I) (pc + 3) ls st (σ, mcp I r1 r0 sp.toNat dp.toNat n.toNat) := by
  refine ⟨⟨Nat.le_refl _, Nat.le_refl _⟩, ?_⟩
  intro P D p l e R s m args below meth c Q c0 s0 C hZ hc0 hs0 hC hS k H locs la hl hR hV
  have hts := C.2.2.2.2.2.1
  have hK := C.2.2.2.2.2.2.1
  have hfr : M.2.2.2.2.1 ≤ R.frames := C.2.2.2.2.2.2.2.2.1
  have hlo' : M.2.2.2.2.2 ≤ R.locals := C.2.2.2.2.2.2.2.2.2.1
  have hwt : ((st.map (mden P.1)).map fun v => v.category).sum ≤ 8 := by rw [mwt_den]; exact hw
  have hc0' : H[P.1 + r0]? = some (vp_cell (P.2 0) (n0, .inl (fun j => Int32.ofInt (I r0 j)))) := hR.2 r0 _ h0
  have hc1' : H[P.1 + r1]? = some (vp_cell (P.2 0) (n1, .inl (fun j => Int32.ofInt (I r1 j)))) := hR.2 r1 _ h1
  obtain ⟨-, k0, hk0, cm0, hkk0⟩ := (mK_int hK).1 n0 (fun j => .int (Int32.ofInt (I r0 j)))
  obtain ⟨-, k1, hk1, cm1, hkk1⟩ := (mK_int hK).1 n1 (fun j => .int (Int32.ofInt (I r1 j)))
  have isp := o32 (a := sp) ⟨by omega, by omega⟩
  have idp := o32 (a := dp) ⟨by omega, by omega⟩
  have inn := o32 (a := n) ⟨by omega, by omega⟩
  have csp := o32_cl (a := sp) ⟨by omega, by omega⟩
  have cdp := o32_cl (a := dp) ⟨by omega, by omega⟩
  have cnn := o32_cl (a := n) ⟨by omega, by omega⟩
  have ng : ∀ a : Int, 0 ≤ a → a < 2147483648 → ¬ Int32.ofInt a < 0 := fun a q1 q2 => by rw [← z32, o32_lt ⟨by omega, by omega⟩ ⟨by decide, by decide⟩]; omega
  intro T hT X
  obtain ⟨vm', X', step⟩ := X.arraycopy C.1 C.2.2.2.1 (hts _ w1) (hts _ w2) (hts _ w3) (hts _ w4) (src := P.1 + r0) (dst := P.1 + r1) (cs := vp_cell (P.2 0) (n0, .inl (fun j => Int32.ofInt (I r0 j)))) (cd := vp_cell (P.2 0) (n1, .inl (fun j => Int32.ofInt (I r1 j)))) (srcPos := Int32.ofInt sp) (destPos := Int32.ofInt dp) (n := Int32.ofInt n) (by rw [hT]; exact hc0') (by rw [hT]; exact hc1')
    (fun _ h => by cases h) (fun _ h => by cases h) (fun h => by cases h) (fun h => by cases h) hk0 hk1 hkk0 hkk1 (by simp [refKind]) (ng _ hsp (by omega)) (ng _ hdp (by omega)) (ng _ hn (by omega))
    (by rw [isp, inn]; show ¬ _ > ((arrV (P.2 0) n0 (fun j => .int (Int32.ofInt (I r0 j)))).slots.size : Int); rw [arrV_size]; omega)
    (by rw [idp, inn]; show ¬ _ > ((arrV (P.2 0) n1 (fun j => .int (Int32.ofInt (I r1 j)))).slots.size : Int); rw [arrV_size]; omega)
    (fun vm₁ _ i hi => by
      have e : (vp_cell (P.2 0) (n0, .inl (fun j => Int32.ofInt (I r0 j)))).slots.getD ((Int32.ofInt sp).toNatClampNeg + i) .null = .int (Int32.ofInt (I r0 ((Int32.ofInt sp).toNatClampNeg + i))) := by
        show (arrV (P.2 0) n0 (fun j => .int (Int32.ofInt (I r0 j)))).slots.getD _ _ = _
        rw [cnn] at hi
        rw [Array.getD_eq_getD_getElem?, arrV_read _ _ (by omega)]
        rfl
      refine ⟨?_, ?_⟩
      · rw [e]; rfl
      · rw [e]; exact trivial)
    (g := F0 m pc la (.int (Int32.ofInt n) :: .int (Int32.ofInt dp) :: .ref (P.1 + r1) :: .int (Int32.ofInt sp) :: .ref (P.1 + r0) :: st.map (mden P.1))) rfl (by rw [C.2.2.1]; exact hl.1) (rest := st.map (mden P.1)) rfl (by rw [C.2.1]; exact d) (by omega) (by show 2 * 0 + _ + _ ≤ _; omega)
  have e1 : copied (vp_cell (P.2 0) (n0, .inl (fun j => Int32.ofInt (I r0 j)))) (vp_cell (P.2 0) (n1, .inl (fun j => Int32.ofInt (I r1 j)))) (Int32.ofInt sp) (Int32.ofInt dp) (Int32.ofInt n) = vp_cell (P.2 0) (n1, .inl (va_cpy (fun j => Int32.ofInt (I r0 j)) (fun j => Int32.ofInt (I r1 j)) (Int32.ofInt sp).toNatClampNeg (Int32.ofInt dp).toNatClampNeg (Int32.ofInt n).toNatClampNeg)) := va_copied (n0 := n0) (n1 := n1) (sp := (Int32.ofInt sp).toNatClampNeg) (dp := (Int32.ofInt dp).toNatClampNeg) (n := (Int32.ofInt n).toNatClampNeg) (fun z => Value.int z) (P.2 0) (P.2 0) (fun j => Int32.ofInt (I r0 j)) (fun j => Int32.ofInt (I r1 j)) (by rw [csp, cnn]; omega)
  rw [e1, csp, cdp, cnn] at X' step
  have hlt : P.1 + r1 < H.size := (Array.getElem?_eq_some_iff.mp hc1').1
  generalize hnew : vp_cell (P.2 0) (n1, .inl (va_cpy (fun j => Int32.ofInt (I r0 j)) (fun j => Int32.ofInt (I r1 j)) sp.toNat dp.toNat n.toNat)) = newc at X' step
  have hheap : ((T.setVm vm').setCell (P.1 + r1) newc).heap = H.setIfInBounds (P.1 + r1) newc := by rw [← hT]; rfl
  have oq : ∀ q : Nat, q ≠ P.1 + r1 → (H.setIfInBounds (P.1 + r1) newc)[q]? = H[q]? := fun q hq => by simp [Array.getElem?_setIfInBounds, Ne.symm hq]
  obtain ⟨t, a1, b1⟩ := k _ _ la hl (hR.put (σ' := σ) (I' := mcp I r1 r0 sp.toNat dp.toNat n.toNat) (r := r1) (c' := .inr (.inl n1)) rfl (by simp) oq (fun _ _ => rfl) (fun c hc => Option.some.inj (hc.symm.trans h1)) (fun j hj => by funext k'; simp [mcp, hj]) (by
      show (H.setIfInBounds (P.1 + r1) newc)[P.1 + r1]? = some (vp_cell _ _)
      rw [Array.getElem?_setIfInBounds, if_pos rfl, if_pos hlt, ← hnew]
      congr 1
      rw [vp_cell_i, vp_cell_i]
      congr 1
      funext j
      simp only [va_cpy, mcp, if_pos]
      by_cases q : dp.toNat ≤ j ∧ j < dp.toNat + n.toNat
      · rw [if_pos q, if_pos q]
      · rw [if_neg q, if_neg q])) ⟨by simp; exact hV.1, fun q g1 g2 => by
      rw [oq q (fun e => g2 (by rw [e]; show P.1 ≤ _; omega))]
      exact hV.2.1 q g1 g2, fun q hq => by
      rcases List.mem_append.mp hq with h | h
      · exact hV.2.2 q h
      · obtain ⟨z, -, hz⟩ := List.mem_map.mp h
        rw [← hz]
        show P.1 ≤ P.1 + r1
        omega⟩ _ hheap X'
  exact ⟨t, step t a1, b1⟩
end COPY
