/-! ===== the JDK's own members over the class's text ===== -/
def mS_coder : mM := (⟨"java/lang/String", "coder", "()B"⟩, prog_13_method_152_code, 1, some .byte, 0, 0)
def mS_length : mM := (⟨"java/lang/String", "length", "()I"⟩, prog_13_method_54_code, 1, some .int, 1, 20)
def mS_isLatin1 : mM := (⟨"java/lang/String", "isLatin1", "()Z"⟩, prog_13_method_154_code, 1, some .boolean, 0, 0)
def mS_pre : mM := (⟨"jdk/internal/util/Preconditions", "checkIndex", "(IILjava/util/function/BiFunction;)I"⟩, prog_17_method_11_code, 3, some .int, 0, 0)
def mS_check : mM := (⟨"java/lang/String", "checkIndex", "(II)V"⟩, prog_13_method_155_code, 2, none, 1, 22)
def mS_lchar : mM := (⟨"java/lang/StringLatin1", "charAt", "([BI)C"⟩, prog_14_method_2_code, 2, some .char, 2, 43)
def mS_charAt : mM := (⟨"java/lang/String", "charAt", "(I)C"⟩, prog_13_method_56_code, 2, some .char, 3, 64)
theorem dS_coder_0 : decode mS_coder.2.1 0 = .ok (.getstatic 38, 3) := by decide +kernel
theorem dS_coder_3 : decode mS_coder.2.1 3 = .ok (.ifCond .eq 10, 3) := by decide +kernel
theorem dS_coder_6 : decode mS_coder.2.1 6 = .ok (.aload_n 0, 1) := by decide +kernel
theorem dS_coder_7 : decode mS_coder.2.1 7 = .ok (.getfield 15, 3) := by decide +kernel
theorem dS_coder_10 : decode mS_coder.2.1 10 = .ok (.goto 4, 3) := by decide +kernel
theorem dS_coder_14 : decode mS_coder.2.1 14 = .ok (.ireturn, 1) := by decide +kernel
theorem dS_length_0 : decode mS_length.2.1 0 = .ok (.aload_n 0, 1) := by decide +kernel
theorem dS_length_1 : decode mS_length.2.1 1 = .ok (.getfield 9, 3) := by decide +kernel
theorem dS_length_4 : decode mS_length.2.1 4 = .ok (.arraylength, 1) := by decide +kernel
theorem dS_length_5 : decode mS_length.2.1 5 = .ok (.aload_n 0, 1) := by decide +kernel
theorem dS_length_6 : decode mS_length.2.1 6 = .ok (.invokevirtual 335, 3) := by decide +kernel
theorem dS_length_9 : decode mS_length.2.1 9 = .ok (.ishr, 1) := by decide +kernel
theorem dS_length_10 : decode mS_length.2.1 10 = .ok (.ireturn, 1) := by decide +kernel
theorem dS_isLatin1_0 : decode mS_isLatin1.2.1 0 = .ok (.getstatic 38, 3) := by decide +kernel
theorem dS_isLatin1_3 : decode mS_isLatin1.2.1 3 = .ok (.ifCond .eq 14, 3) := by decide +kernel
theorem dS_isLatin1_6 : decode mS_isLatin1.2.1 6 = .ok (.aload_n 0, 1) := by decide +kernel
theorem dS_isLatin1_7 : decode mS_isLatin1.2.1 7 = .ok (.getfield 15, 3) := by decide +kernel
theorem dS_isLatin1_10 : decode mS_isLatin1.2.1 10 = .ok (.ifCond .ne 7, 3) := by decide +kernel
theorem dS_isLatin1_13 : decode mS_isLatin1.2.1 13 = .ok (.iconst 1, 1) := by decide +kernel
theorem dS_isLatin1_14 : decode mS_isLatin1.2.1 14 = .ok (.goto 4, 3) := by decide +kernel
theorem dS_isLatin1_18 : decode mS_isLatin1.2.1 18 = .ok (.ireturn, 1) := by decide +kernel
theorem dS_pre_0 : decode mS_pre.2.1 0 = .ok (.iload_n 0, 1) := by decide +kernel
theorem dS_pre_1 : decode mS_pre.2.1 1 = .ok (.ifCond .lt 8, 3) := by decide +kernel
theorem dS_pre_4 : decode mS_pre.2.1 4 = .ok (.iload_n 0, 1) := by decide +kernel
theorem dS_pre_5 : decode mS_pre.2.1 5 = .ok (.iload_n 1, 1) := by decide +kernel
theorem dS_pre_6 : decode mS_pre.2.1 6 = .ok (.if_icmp .lt 10, 3) := by decide +kernel
theorem dS_pre_16 : decode mS_pre.2.1 16 = .ok (.iload_n 0, 1) := by decide +kernel
theorem dS_pre_17 : decode mS_pre.2.1 17 = .ok (.ireturn, 1) := by decide +kernel
theorem dS_check_0 : decode mS_check.2.1 0 = .ok (.iload_n 0, 1) := by decide +kernel
theorem dS_check_1 : decode mS_check.2.1 1 = .ok (.iload_n 1, 1) := by decide +kernel
theorem dS_check_2 : decode mS_check.2.1 2 = .ok (.getstatic 1053, 3) := by decide +kernel
theorem dS_check_5 : decode mS_check.2.1 5 = .ok (.invokestatic 1059, 3) := by decide +kernel
theorem dS_check_8 : decode mS_check.2.1 8 = .ok (.pop, 1) := by decide +kernel
theorem dS_check_9 : decode mS_check.2.1 9 = .ok (.return_, 1) := by decide +kernel
theorem dS_lchar_0 : decode mS_lchar.2.1 0 = .ok (.iload_n 1, 1) := by decide +kernel
theorem dS_lchar_1 : decode mS_lchar.2.1 1 = .ok (.aload_n 0, 1) := by decide +kernel
theorem dS_lchar_2 : decode mS_lchar.2.1 2 = .ok (.arraylength, 1) := by decide +kernel
theorem dS_lchar_3 : decode mS_lchar.2.1 3 = .ok (.invokestatic 9, 3) := by decide +kernel
theorem dS_lchar_6 : decode mS_lchar.2.1 6 = .ok (.aload_n 0, 1) := by decide +kernel
theorem dS_lchar_7 : decode mS_lchar.2.1 7 = .ok (.iload_n 1, 1) := by decide +kernel
theorem dS_lchar_8 : decode mS_lchar.2.1 8 = .ok (.baload, 1) := by decide +kernel
theorem dS_lchar_9 : decode mS_lchar.2.1 9 = .ok (.sipush 255, 3) := by decide +kernel
theorem dS_lchar_12 : decode mS_lchar.2.1 12 = .ok (.iand, 1) := by decide +kernel
theorem dS_lchar_13 : decode mS_lchar.2.1 13 = .ok (.i2c, 1) := by decide +kernel
theorem dS_lchar_14 : decode mS_lchar.2.1 14 = .ok (.ireturn, 1) := by decide +kernel
theorem dS_charAt_0 : decode mS_charAt.2.1 0 = .ok (.aload_n 0, 1) := by decide +kernel
theorem dS_charAt_1 : decode mS_charAt.2.1 1 = .ok (.invokevirtual 492, 3) := by decide +kernel
theorem dS_charAt_4 : decode mS_charAt.2.1 4 = .ok (.ifCond .eq 12, 3) := by decide +kernel
theorem dS_charAt_7 : decode mS_charAt.2.1 7 = .ok (.aload_n 0, 1) := by decide +kernel
theorem dS_charAt_8 : decode mS_charAt.2.1 8 = .ok (.getfield 9, 3) := by decide +kernel
theorem dS_charAt_11 : decode mS_charAt.2.1 11 = .ok (.iload_n 1, 1) := by decide +kernel
theorem dS_charAt_12 : decode mS_charAt.2.1 12 = .ok (.invokestatic 495, 3) := by decide +kernel
theorem dS_charAt_15 : decode mS_charAt.2.1 15 = .ok (.ireturn, 1) := by decide +kernel
/-- behind a call, the caller's frame as it was -/
theorem w_run {p : Program} {l : Launch} {e : Env} {R : Room} {s : State} {m : MethodId} {args : Array Value} {below : List Frame} {meth : Method} {c : Code} {Q : State → Prop} {H : Heap} {locs : List Loc} {cells slots k n pc : Nat} {P : mP} {D : va_G} {v : Option mV} {h2 : mH} {a : Array Value} {la : Array Slot} {st0 rest : List Value} (hr : va_Run p l e R s m args below meth c H locs cells slots k n (F0 m pc la st0) rest (mQc P D v h2 a) (mAo P)) (hV : va_S (mAo P) s.heap H locs)
    (kk : ∀ (H2 : Heap) (locs2 : List Loc), mRz P D h2 H2 → va_S (mAo P) s.heap H2 locs2 → W p l e R s m args below meth c H2 locs2 (cells + k) (slots + n) Q (F0 m (pc + 3) la ((v.map (mden P.1)).toList ++ rest))) : W p l e R s m args below meth c H locs cells slots Q (F0 m pc la st0) := by
  intro T hT X
  obtain ⟨v', st₀, t, T', L, h0, X', hL, e1, e2, ⟨hv, hR2, hF⟩, st⟩ := hr T hT X
  have hv' : v' = v.map (mden P.1) := Outcome.returned.inj hv
  subst hv'
  obtain ⟨hz, hk⟩ := hF
  rw [h0] at hz hk
  obtain ⟨t2, a1, b1⟩ := kk T'.heap (locs ++ L) (by rw [e1]; exact hR2)
    ⟨Nat.le_trans hV.1 (by rw [e1]; exact hz), fun q h1 h2 => by rw [e1, hk q (Nat.lt_of_lt_of_le h1 hV.1) h2]; exact hV.2.1 q h1 h2, fun q hq => by
      rcases List.mem_append.mp hq with h | h
      · exact hV.2.2 q h
      · exact hL q h⟩ T' rfl X'
  exact ⟨t2, st t2 a1, b1⟩
/-! contracts of the JDK's members: the text lies at q, its bytes at va -/
def sPc (P : mP) (D : va_G) (as : List Value) (q va : Nat) (h : mH) : Array Value → State → Prop := fun a U => a = as.toArray ∧ mRz P D h U.heap ∧ va_K D mcl (mtys P) U ∧ mEX P U U.heap ∧ mSF P q va U U.heap
theorem sPc_blind {P : mP} {D : va_G} {as : List Value} {q va : Nat} {h : mH} : FrameBlind (sPc P D as q va h) := by
  intro a U g mk z
  obtain ⟨q1, q2, q3, q4, q5⟩ := z
  exact ⟨q1, q2, va_K.moved (u := U) (U := U.calling g mk a) (Vm.Alike.refl U.vm) q3, mEX.same (s := U) (U := U.calling g mk a) q4 rfl rfl, mSF.same (s := U) (U := U.calling g mk a) q5 rfl rfl⟩
def sCt (M : mM) (as : Nat → Nat → List Value) (v : Option mV) : Prop := ∀ (l : Launch) (P : mP) (D : va_G) (q va : Nat) (h : mH), Met l M.1 (mwsM M) ({ frames := M.2.2.2.2.1, cells := 0, slots := 0, locals := M.2.2.2.2.2 }) (sPc P D (as q va) q va h) (mQc P D v h) 0 0 (mAo P)
/-- what holds in a method that may call them -/
def sCx (M : mM) (P : mP) (D : va_G) (p : Program) (R : Room) (s : State) (m : MethodId) (args : Array Value) (c : Code) (q va : Nat) : Prop := p.tables.exec = Jvm.exec ∧ c.code = M.2.1 ∧ c.maxLocals = M.2.2.1 ∧ s.vm.findClass M.1.cls = some m.cls ∧ (∀ w ∈ gtbl, w.before args s = true) ∧ va_K D mcl (mtys P) s ∧ mEX P s s.heap ∧ mSF P q va s s.heap ∧ M.2.2.2.2.1 ≤ R.frames ∧ M.2.2.2.2.2 ≤ R.locals
theorem sCt.of {M : mM} {as : Nat → Nat → List Value} {v : Option mV} (hp : plainName M.1.cls = true) (hn : ∀ q va, (lg_sl (as q va)).length ≤ M.2.2.1)
    (k : ∀ (l : Launch) (P : mP) (D : va_G) (q va : Nat) (h : mH) (p : Program) (e : Env) (R : Room) (s : State) (m : MethodId) (args : Array Value) (below : List Frame) (meth : Method) (c : Code) (la : Array Slot), sCx M P D p R s m args c q va → meth.sig.returnType = M.2.2.2.1 → meth.locks = false → mRz P D h s.heap → lv_has la M.2.2.1 (lv_args 0 (as q va)) → W p l e R s m args below meth c s.heap [] 0 0 (MQ below (mQc P D v h) args s 0 0 (mAo P)) (F0 m 0 la [])) : sCt M as v := by
  intro l P D q va h
  refine Met.ofW (cc := M.2.1) (maxL := M.2.2.1) (ret := M.2.2.2.1) hp rfl ?_
  intro p e s m args below meth c s₁ B hml hv
  obtain ⟨rfl, hR, hK, hE, hF⟩ := hv
  have hts := atoms_spec (ws := mwsM M) B.pre
  have hl := lv_entry (as q va) (n := M.2.2.1) (hn q va)
  rw [lg_entry_eq]
  exact k l P D q va h p e _ s m _ below meth c _ ⟨B.exec, B.bytes, hml, findClass_of_methodNamed B.named, fun w hw => hts w (List.mem_cons_of_mem _ hw), hK, hE, hF, Nat.le_refl _, Nat.le_refl _⟩ B.returns B.notSynchronized hR hl
section SCALLS
variable {M M2 : mM} {P : mP} {D : va_G} {p : Program} {l : Launch} {e : Env} {R : Room} {s : State} {m : MethodId} {args : Array Value} {below : List Frame} {meth : Method} {c : Code} {Q : State → Prop} {H : Heap} {locs : List Loc} {cells slots pc idx n q va : Nat} {h : mH} {la : Array Slot} {st0 : List Value} {v : Option mV}
theorem s_pre {as : List Value} (hK : va_K D mcl (mtys P) s) (hE : mEX P s s.heap) (hF : mSF P q va s s.heap) (hV : va_S (mAo P) s.heap H locs) (hR : mRz P D h H) : ∀ U : State, U.heap = H → s.WarmedH U.vm → sPc P D as q va h as.toArray U :=
  fun U hU hW => ⟨rfl, by rw [hU]; exact hR, va_K.moved hW.alike hK, hE.next hV hW hU, hF.next hV hW hU⟩
/-- a call of one of them on the text -/
theorem s_callV (C : sCx M P D p R s m args c q va) (As rest : List Value) (d : decode M.2.1 pc = .ok (.invokevirtual idx, 3)) (hcl : M2.1.cls = "java/lang/String") (w0 : Cond.methodLink M.1.cls idx M2.1 ∈ gtbl) (w1 : Cond.instanceMethod M2.1 ∈ gtbl) (w2 : Cond.selects M2.1.cls M2.1 M2.1 ∈ gtbl) (w3 : Cond.initialized M2.1.cls ∈ gtbl) (w4 : Cond.code M2.1 M2.2.1 M2.2.2.1 M2.2.2.2.1 ∈ gtbl) (hlen : (parseMethodDescriptor M2.1.desc).map (fun d => d.parameters.length) = some n) (fit : mFit M M2) (hc : sCt M2 (fun q _ => .ref q :: As) v) (hn : As.length = n) (hst : st0 = As.reverse ++ .ref q :: rest) (hw : (rest.map fun v => v.category).sum ≤ 8) (hl : la.size = M.2.2.1) (hcs : cells ≤ R.cells ∧ slots ≤ R.slots) (hR : mRz P D h H) (hV : va_S (mAo P) s.heap H locs)
    (kk : ∀ (H2 : Heap) (locs2 : List Loc), mRz P D h H2 → va_S (mAo P) s.heap H2 locs2 → W p l e R s m args below meth c H2 locs2 cells slots Q (F0 m (pc + 3) la ((v.map (mden P.1)).toList ++ rest))) : W p l e R s m args below meth c H locs cells slots Q (F0 m pc la st0) := by
  obtain ⟨hx, hb, hml, hown, hts, hK, hE, hF, hfr, hlo⟩ := C
  obtain ⟨fr, lo⟩ := fit
  have hrecv : ∃ cellB : Cell, H[q]? = some cellB ∧ cellB.vm.isStatics = false ∧ s.vm.findClass M2.1.cls = some cellB.cls := by
    rw [hcl]
    exact vk_recv (adK := fun _ => q) hF.2.1 (i := 0) (by decide) hV
  have hnh : M2.1.cls ≠ "java/lang/invoke/MethodHandle" ∧ M2.1.cls ≠ "java/lang/invoke/VarHandle" := by
    rw [hcl]
    exact ⟨by decide, by decide⟩
  exact w_run (va_runV (Ts := gtbl) (As := As) (rest := rest) ⟨hx, hb, hml, hown, hts⟩ (hc l P D q va h) ⟨⟨rfl, rfl, by show M2.2.2.2.2.1 + 1 ≤ _; omega, by show 8 + _ + M2.2.2.2.2.2 ≤ _; omega, m_words hts w4, List.mem_cons_self, hts _ w4, hts _ w3, hnh, m_len hlen, hts _ w0⟩, hts _ w1, hts _ w2⟩ ⟨sPc_blind, hrecv, s_pre hK hE hF hV hR⟩ rfl hn hl hst (lv_room hw) d ⟨hcs.1, hcs.2⟩) hV kk
theorem s_callS (C : sCx M P D p R s m args c q va) (As rest : List Value) (d : decode M.2.1 pc = .ok (.invokestatic idx, 3)) (w0 : Cond.methodLink M.1.cls idx M2.1 ∈ gtbl) (w1 : Cond.static M2.1 ∈ gtbl) (w3 : Cond.initialized M2.1.cls ∈ gtbl) (w4 : Cond.code M2.1 M2.2.1 M2.2.2.1 M2.2.2.2.1 ∈ gtbl) (hnh : M2.1.cls ≠ "java/lang/invoke/MethodHandle" ∧ M2.1.cls ≠ "java/lang/invoke/VarHandle") (hlen : (parseMethodDescriptor M2.1.desc).map (fun d => d.parameters.length) = some n) (fit : mFit M M2) {As' : Nat → Nat → List Value} (hAs : As = As' q va) (hc : sCt M2 As' v) (hn : As.length = n) (hst : st0 = As.reverse ++ rest) (hw : (rest.map fun v => v.category).sum ≤ 8) (hl : la.size = M.2.2.1) (hcs : cells ≤ R.cells ∧ slots ≤ R.slots) (hR : mRz P D h H) (hV : va_S (mAo P) s.heap H locs)
    (kk : ∀ (H2 : Heap) (locs2 : List Loc), mRz P D h H2 → va_S (mAo P) s.heap H2 locs2 → W p l e R s m args below meth c H2 locs2 cells slots Q (F0 m (pc + 3) la ((v.map (mden P.1)).toList ++ rest))) : W p l e R s m args below meth c H locs cells slots Q (F0 m pc la st0) := by
  obtain ⟨hx, hb, hml, hown, hts, hK, hE, hF, hfr, hlo⟩ := C
  obtain ⟨fr, lo⟩ := fit
  subst hAs
  exact w_run (va_runS (Ts := gtbl) (As := As' q va) (rest := rest) ⟨hx, hb, hml, hown, hts⟩ (hc l P D q va h) ⟨⟨rfl, rfl, by show M2.2.2.2.2.1 + 1 ≤ _; omega, by show 8 + _ + M2.2.2.2.2.2 ≤ _; omega, m_words hts w4, List.mem_cons_self, hts _ w4, hts _ w3, hnh, m_len hlen, hts _ w0⟩, hts _ w1⟩ ⟨sPc_blind, s_pre hK hE hF hV hR⟩ rfl hn hl hst (lv_room hw) d ⟨hcs.1, hcs.2⟩) hV kk
end SCALLS
set_option maxRecDepth 100000 in
theorem s_coder : sCt mS_coder (fun q _ => [.ref q]) (some (mi 0)) := by
  refine sCt.of (by decide +kernel) (fun q va => Nat.le_of_ble_eq_true rfl) ?_
  intro l P D q va h p e R s m args below meth c la C hr hlk hR hl
  obtain ⟨hx, hb, hml, hown, hts, hK, hE, hF, hfr, hlo⟩ := id C
  have hS : va_S (mAo P) s.heap s.heap [] := va_S.rf
  have hl : lv_has la 1 [(0, .ref q)] := hl
  have hv := hF.2.1.1 0 (by decide)
  refine va_gets hx hb hF.2.2.1 hS hown (hts _ gw_228) (fun _ h9 => h9) dS_coder_0 ?_
  refine lv_if_eq (tgt := 13) hx hb dS_coder_3 (by decide) (fun z => absurd z (by decide)) (fun _ => ?_)
  refine lv_aload_n hx hb dS_coder_6 rfl (lv_at hl 0 rfl) ?_
  refine vk_getf hx hb hv.2.1 hS hown (hts _ gw_1133) (fun _ h9 => h9) dS_coder_7 ?_
  refine lv_goto (tgt := 14) hx hb dS_coder_10 (by decide) ?_
  exact W.zret hx hb hr (by decide) (fun t ht hW => ⟨rfl, by rw [ht]; exact hR, hS.F ht⟩) hS.2.2 dS_coder_14 hlk
set_option maxRecDepth 100000 in
theorem s_length : sCt mS_length (fun q _ => [.ref q]) (some (mi 113)) := by
  refine sCt.of (by decide +kernel) (fun q va => Nat.le_of_ble_eq_true rfl) ?_
  intro l P D q va h p e R s m args below meth c la C hr hlk hR hl
  obtain ⟨hx, hb, hml, hown, hts, hK, hE, hF, hfr, hlo⟩ := id C
  have hS : va_S (mAo P) s.heap s.heap [] := va_S.rf
  have hl : lv_has la 1 [(0, .ref q)] := hl
  have hv := hF.2.1.1 0 (by decide)
  refine lv_aload_n hx hb dS_length_0 rfl (lv_at hl 0 rfl) ?_
  refine vk_getf hx hb hv.2.2.1 hS hown (hts _ gw_1132) (fun _ h9 => h9) dS_length_1 ?_
  refine va_tlen hx hb hv.2.2.2 hS (v := 113) (by decide) dS_length_4 ?_
  refine lv_aload_n hx hb dS_length_5 rfl (lv_at hl 0 rfl) ?_
  refine s_callV (M2 := mS_coder) C [] [.int 113] dS_length_6 rfl gw_224 gw_225 gw_226 gw_10 gw_227 (n := 0) (by decide +kernel) ⟨Nat.le_of_ble_eq_true rfl, Nat.le_of_ble_eq_true rfl⟩ s_coder rfl rfl (by decide) hl.1 ⟨Nat.zero_le _, Nat.zero_le _⟩ hR hS ?_
  intro H2 locs2 hR2 hS2
  refine lv_ishr hx hb dS_length_9 ?_
  exact W.iret hx hb hr (fun t ht hW => ⟨by rw [show (113 : Int32) >>> (Int32.ofInt 0 &&& 31) = Int32.ofInt 113 by decide]; rfl, by rw [ht]; exact hR2, hS2.F ht⟩) hS2.2.2 dS_length_10 hlk
set_option maxRecDepth 100000 in
theorem s_isLatin1 : sCt mS_isLatin1 (fun q _ => [.ref q]) (some (mi 1)) := by
  refine sCt.of (by decide +kernel) (fun q va => Nat.le_of_ble_eq_true rfl) ?_
  intro l P D q va h p e R s m args below meth c la C hr hlk hR hl
  obtain ⟨hx, hb, hml, hown, hts, hK, hE, hF, hfr, hlo⟩ := id C
  have hS : va_S (mAo P) s.heap s.heap [] := va_S.rf
  have hl : lv_has la 1 [(0, .ref q)] := hl
  have hv := hF.2.1.1 0 (by decide)
  refine va_gets hx hb hF.2.2.1 hS hown (hts _ gw_228) (fun _ h9 => h9) dS_isLatin1_0 ?_
  refine lv_if_eq (tgt := 17) hx hb dS_isLatin1_3 (by decide) (fun z => absurd z (by decide)) (fun _ => ?_)
  refine lv_aload_n hx hb dS_isLatin1_6 rfl (lv_at hl 0 rfl) ?_
  refine vk_getf hx hb hv.2.1 hS hown (hts _ gw_1133) (fun _ h9 => h9) dS_isLatin1_7 ?_
  refine lv_if_ne (tgt := 17) hx hb dS_isLatin1_10 (by decide) (fun z => absurd rfl z) (fun _ => ?_)
  refine lv_iconst (v := 1) hx hb dS_isLatin1_13 (by decide) ?_
  refine lv_goto (tgt := 18) hx hb dS_isLatin1_14 (by decide) ?_
  exact W.zret hx hb hr (by decide) (fun t ht hW => ⟨rfl, by rw [ht]; exact hR, hS.F ht⟩) hS.2.2 dS_isLatin1_18 hlk
set_option maxRecDepth 100000 in
theorem s_pre3 {k : Nat} (hk : k < 113) {o : Value} (ho : o = .null ∨ ∃ t, o = .ref t) : sCt mS_pre (fun _ _ => [.int (Int32.ofInt k), .int 113, o]) (some (mi (k : Int))) := by
  refine sCt.of (by decide +kernel) (fun q va => by rcases ho with rfl | ⟨t, rfl⟩ <;> exact Nat.le_of_ble_eq_true rfl) ?_
  intro l P D q va h p e R s m args below meth c la C hr hlk hR hl
  obtain ⟨hx, hb, hml, hown, hts, hK, hE, hF, hfr, hlo⟩ := id C
  have hS : va_S (mAo P) s.heap s.heap [] := va_S.rf
  have hl : lv_has la 3 [(0, .int (Int32.ofInt k)), (1, .int 113), (2, o)] := hl
  have e113 : (113 : Int32) = Int32.ofInt 113 := by decide
  refine lv_iload_n hx hb dS_pre_0 rfl (lv_at hl 0 rfl) ?_
  refine lv_if_lt (tgt := 9) hx hb dS_pre_1 (by decide) (fun z => ?_) (fun _ => ?_)
  · rw [← z32, o32_lt ⟨by omega, by omega⟩ ⟨by decide, by decide⟩] at z
    omega
  refine lv_iload_n hx hb dS_pre_4 rfl (lv_at hl 0 rfl) ?_
  refine lv_iload_n hx hb dS_pre_5 rfl (lv_at hl 1 rfl) ?_
  refine lv_icmp_lt (tgt := 16) hx hb dS_pre_6 (by decide) (fun _ => ?_) (fun z => ?_)
  · refine lv_iload_n hx hb dS_pre_16 rfl (lv_at hl 0 rfl) ?_
    exact W.iret hx hb hr (fun t ht hW => ⟨rfl, by rw [ht]; exact hR, hS.F ht⟩) hS.2.2 dS_pre_17 hlk
  · rw [e113, o32_lt ⟨by omega, by omega⟩ ⟨by decide, by decide⟩] at z
    omega
set_option maxRecDepth 100000 in
theorem s_check {k : Nat} (hk : k < 113) : sCt mS_check (fun _ _ => [.int (Int32.ofInt k), .int 113]) none := by
  refine sCt.of (by decide +kernel) (fun q va => Nat.le_of_ble_eq_true rfl) ?_
  intro l P D q va h p e R s m args below meth c la C hr hlk hR hl
  obtain ⟨hx, hb, hml, hown, hts, hK, hE, hF, hfr, hlo⟩ := id C
  have hS : va_S (mAo P) s.heap s.heap [] := va_S.rf
  have hl : lv_has la 2 [(0, .int (Int32.ofInt k)), (1, .int 113)] := hl
  refine lv_iload_n hx hb dS_check_0 rfl (lv_at hl 0 rfl) ?_
  refine lv_iload_n hx hb dS_check_1 rfl (lv_at hl 1 rfl) ?_
  have key : ∀ o : Value, (o = .null ∨ ∃ t, o = .ref t) → W p l e R s m args below meth c s.heap [] 0 0 (MQ below (mQc P D none h) args s 0 0 (mAo P)) (F0 m 5 la [o, .int 113, .int (Int32.ofInt k)]) := by
    intro o ho
    refine s_callS (M2 := mS_pre) C [.int (Int32.ofInt k), .int 113, o] [] dS_check_5 gw_246 gw_247 gw_12 gw_248 ⟨by decide, by decide⟩ (n := 3) (by decide +kernel) ⟨Nat.le_of_ble_eq_true rfl, Nat.le_of_ble_eq_true rfl⟩ rfl (s_pre3 hk ho) rfl rfl (by decide) hl.1 ⟨Nat.zero_le _, Nat.zero_le _⟩ hR hS ?_
    intro H2 locs2 hR2 hS2
    refine lv_pop hx hb dS_check_8 rfl ?_
    exact W.vret hx hb hr (fun t ht hW => ⟨rfl, by rw [ht]; exact hR2, hS2.F ht⟩) hS2.2.2 dS_check_9 hlk
  rcases hF.2.2.2 with z | ⟨t, z⟩
  · refine va_gets hx hb z hS hown (hts _ gw_244) (fun _ h9 => h9) dS_check_2 ?_
    exact key _ (Or.inl rfl)
  · refine va_gets hx hb z hS hown (hts _ gw_244) (fun _ h9 => h9) dS_check_2 ?_
    exact key _ (Or.inr ⟨t, rfl⟩)
/-- the letter at k -/
def mch (k : Nat) : Int := (mbyt.getD k 0).toInt
theorem mch_ok : ∀ k : Fin 113, (((mbyt.getD k.val 0) &&& 255).toUInt32 % 65536).toInt32 = Int32.ofInt (mch k.val) ∧ narrow .char (.int (Int32.ofInt (mch k.val))) = .int (Int32.ofInt (mch k.val)) := by decide +kernel
set_option maxRecDepth 100000 in
theorem s_lchar {k : Nat} (hk : k < 113) : sCt mS_lchar (fun _ va => [.ref va, .int (Int32.ofInt k)]) (some (mi (mch k))) := by
  refine sCt.of (by decide +kernel) (fun q va => Nat.le_of_ble_eq_true rfl) ?_
  intro l P D q va h p e R s m args below meth c la C hr hlk hR hl
  obtain ⟨hx, hb, hml, hown, hts, hK, hE, hF, hfr, hlo⟩ := id C
  have hS : va_S (mAo P) s.heap s.heap [] := va_S.rf
  have hl : lv_has la 2 [(0, .ref va), (1, .int (Int32.ofInt k))] := hl
  have hv := hF.2.1.1 0 (by decide)
  have hcl : (Int32.ofInt (k : Int)).toNatClampNeg = k := by rw [o32_cl ⟨by omega, by omega⟩]; omega
  refine lv_iload_n hx hb dS_lchar_0 rfl (lv_at hl 1 rfl) ?_
  refine lv_aload_n hx hb dS_lchar_1 rfl (lv_at hl 0 rfl) ?_
  refine va_tlen hx hb hv.2.2.2 hS (v := 113) (by decide) dS_lchar_2 ?_
  refine s_callS (M2 := mS_check) C [.int (Int32.ofInt k), .int 113] [] dS_lchar_3 gw_241 gw_242 gw_10 gw_243 ⟨by decide, by decide⟩ (n := 2) (by decide +kernel) ⟨Nat.le_of_ble_eq_true rfl, Nat.le_of_ble_eq_true rfl⟩ rfl (s_check hk) rfl rfl (by decide) hl.1 ⟨Nat.zero_le _, Nat.zero_le _⟩ hR hS ?_
  intro H2 locs2 hR2 hS2
  refine lv_aload_n hx hb dS_lchar_6 rfl (lv_at hl 0 rfl) ?_
  refine lv_iload_n hx hb dS_lchar_7 rfl (lv_at hl 1 rfl) ?_
  refine va_tb hx hb hv.2.2.2 hS2 (o32_in ⟨by omega, by show (k : Int) < ((113 : Nat) : Int); omega⟩ (by decide)) (v := .int (mbyt.getD k 0)) (by rw [hcl]; rfl) dS_lchar_8 ?_
  refine lv_sipush (v := 255) hx hb dS_lchar_9 (by decide) ?_
  refine lv_iand hx hb dS_lchar_12 ?_
  refine lv_i2c (v := Int32.ofInt (mch k)) hx hb dS_lchar_13 (mch_ok ⟨k, hk⟩).1 ?_
  exact W.zret hx hb hr (mch_ok ⟨k, hk⟩).2 (fun t ht hW => ⟨rfl, by rw [ht]; exact hR2, hS2.F ht⟩) hS2.2.2 dS_lchar_14 hlk
set_option maxRecDepth 100000 in
theorem s_charAt {k : Nat} (hk : k < 113) : sCt mS_charAt (fun q _ => [.ref q, .int (Int32.ofInt k)]) (some (mi (mch k))) := by
  refine sCt.of (by decide +kernel) (fun q va => Nat.le_of_ble_eq_true rfl) ?_
  intro l P D q va h p e R s m args below meth c la C hr hlk hR hl
  obtain ⟨hx, hb, hml, hown, hts, hK, hE, hF, hfr, hlo⟩ := id C
  have hS : va_S (mAo P) s.heap s.heap [] := va_S.rf
  have hl : lv_has la 2 [(0, .ref q), (1, .int (Int32.ofInt k))] := hl
  have hv := hF.2.1.1 0 (by decide)
  refine lv_aload_n hx hb dS_charAt_0 rfl (lv_at hl 0 rfl) ?_
  refine s_callV (M2 := mS_isLatin1) C [] [] dS_charAt_1 rfl gw_234 gw_235 gw_236 gw_10 gw_237 (n := 0) (by decide +kernel) ⟨Nat.le_of_ble_eq_true rfl, Nat.le_of_ble_eq_true rfl⟩ s_isLatin1 rfl rfl (by decide) hl.1 ⟨Nat.zero_le _, Nat.zero_le _⟩ hR hS ?_
  intro H2 locs2 hR2 hS2
  refine lv_if_eq (tgt := 16) hx hb dS_charAt_4 (by decide) (fun z => absurd z (by decide)) (fun _ => ?_)
  refine lv_aload_n hx hb dS_charAt_7 rfl (lv_at hl 0 rfl) ?_
  refine vk_getf hx hb hv.2.2.1 hS2 hown (hts _ gw_1132) (fun _ h9 => h9) dS_charAt_8 ?_
  refine lv_iload_n hx hb dS_charAt_11 rfl (lv_at hl 1 rfl) ?_
  refine s_callS (M2 := mS_lchar) C [.ref va, .int (Int32.ofInt k)] [] dS_charAt_12 gw_238 gw_239 gw_11 gw_240 ⟨by decide, by decide⟩ (n := 2) (by decide +kernel) ⟨Nat.le_of_ble_eq_true rfl, Nat.le_of_ble_eq_true rfl⟩ rfl (s_lchar hk) rfl rfl (by decide) hl.1 ⟨Nat.zero_le _, Nat.zero_le _⟩ hR2 hS2 ?_
  intro H3 locs3 hR3 hS3
  exact W.zret hx hb hr (mch_ok ⟨k, hk⟩).2 (fun t ht hW => ⟨rfl, by rw [ht]; exact hR3, hS3.F ht⟩) hS3.2.2 dS_charAt_15 hlk
/-! in the constructor: the text's length, its letters -/
section INIT
variable {Z : mZ} {ls : mL} {st : List mV} {h : mH}
theorem mX8_sCx {P : mP} {D : va_G} {p : Program} {R : Room} {s : State} {m : MethodId} {args : Array Value} {meth : Method} {c : Code} {q va : Nat} (C : mCx mX8_init P D p R s m args meth c) (hF : mSF P q va s s.heap) : sCx mX8_init P D p R s m args c q va := ⟨C.1, C.2.1, C.2.2.1, C.2.2.2.1, C.2.2.2.2.2.1, C.2.2.2.2.2.2.1, C.2.2.2.2.2.2.2.1, hF, C.2.2.2.2.2.2.2.2.1, C.2.2.2.2.2.2.2.2.2.1⟩
set_option maxRecDepth 100000 in
theorem q_textLen (hw : mwt st ≤ 8) : mGo Z mX8_init 157 ls st h 162 ls (mi 113 :: st) h := by
  refine ⟨⟨Nat.le_refl _, Nat.le_refl _⟩, ?_⟩
  intro P D p l e R s m args below meth c Q c0 s0 C hZ hc0 hs0 hC hS k H locs la hl hR hV
  obtain ⟨q, va, hF⟩ := C.2.2.2.2.2.2.2.1.2.2.2
  have C' := mX8_sCx C hF
  refine va_ldcS C.1 C.2.1 C.2.2.2.1 hF.1 dX8_init_157 ?_
  refine s_callV (M2 := mS_length) C' [] (st.map (mden P.1)) dX8_init_159 rfl gw_220 gw_221 gw_222 gw_10 gw_223 (n := 0) (by decide +kernel) ⟨Nat.le_of_ble_eq_true rfl, Nat.le_of_ble_eq_true rfl⟩ s_length rfl rfl (by rw [mwt_den]; exact hw) hl.1 ⟨hC, hS⟩ hR hV ?_
  intro H2 locs2 hR2 hS2
  exact k H2 locs2 la hl hR2 hS2
set_option maxRecDepth 100000 in
theorem q_textAt {k : Nat} (hk : k < 113) (hw : mwt st ≤ 8) (hv : ls[1]? = some (some (mi (k : Int)))) : mGo Z mX8_init 169 ls st h 175 ls (mi (mch k) :: st) h := by
  refine ⟨⟨Nat.le_refl _, Nat.le_refl _⟩, ?_⟩
  intro P D p l e R s m args below meth c Q c0 s0 C hZ hc0 hs0 hC hS kk H locs la hl hR hV
  obtain ⟨q, va, hF⟩ := C.2.2.2.2.2.2.2.1.2.2.2
  have C' := mX8_sCx C hF
  refine va_ldcS C.1 C.2.1 C.2.2.2.1 hF.1 dX8_init_169 ?_
  refine lv_iload_n C.1 C.2.1 dX8_init_171 rfl (hl.2.2 1 _ hv) ?_
  refine s_callV (M2 := mS_charAt) C' [.int (Int32.ofInt k)] (st.map (mden P.1)) dX8_init_172 rfl gw_230 gw_231 gw_232 gw_10 gw_233 (n := 1) (by decide +kernel) ⟨Nat.le_of_ble_eq_true rfl, Nat.le_of_ble_eq_true rfl⟩ (s_charAt hk) rfl rfl (by rw [mwt_den]; exact hw) hl.1 ⟨hC, hS⟩ hR hV ?_
  intro H2 locs2 hR2 hS2
  exact kk H2 locs2 la hl hR2 hS2
end INIT
