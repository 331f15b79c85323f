/-! ===== the law: its steps, the script beside ===== -/
def LX (P : mP) (D : va_G) (p : Program) (s : State) (m : MethodId) (c : Code) (b L : Nat) (xs : Nat → Int32) : Prop := p.tables.exec = Jvm.exec ∧ c.code = code ∧ c.maxLocals = 4 ∧ s.vm.findClass RL = some m.cls ∧ (∀ w ∈ gtbl, w.before #[Value.ref b] s = true) ∧ va_K D mcl (mtys P) s ∧ mEX P s s.heap ∧ va_X b L xs s s.heap ∧ b < s.heap.size ∧ P.1 = s.heap.size
def LW (p : Program) (l : Launch) (e : Env) (s : State) (m : MethodId) (below : List Frame) (meth : Method) (c : Code) (Q : State → Prop) (P : mP) (D : va_G) (b : Nat) (lv : List (Nat × Value)) (pc : Nat) (st : List mV) (h : mH) : Prop := ∀ (H : Heap) (locs : List Loc) (la : Array Slot), lv_has la 4 lv → mRz P D h H → va_S (mAo P) s.heap H locs → W p l e room_1 s m #[Value.ref b] below meth c H locs h.1.length (mS h) Q (F0 m pc la (st.map (mden P.1)))
section LAWR
variable {p : Program} {l : Launch} {e : Env} {s : State} {m : MethodId} {below : List Frame} {meth : Method} {c : Code} {Q : State → Prop} {P : mP} {D : va_G} {b L : Nat} {xs : Nat → Int32} {lv lv' : List (Nat × Value)} {pc : Nat} {st : List mV} {h h2 : mH}
theorem l_iconst (X : LX P D p s m c b L xs) {n : Int} (d : decode code pc = .ok (.iconst n, 1)) (k : LW p l e s m below meth c Q P D b lv (pc + 1) (mi n :: st) h) : LW p l e s m below meth c Q P D b lv pc st h := fun H locs la hl hR hV => lv_iconst X.1 X.2.1 d rfl (k H locs la hl hR hV)
theorem l_aload (X : LX P D p s m c b L xs) {k : Fin 4} {i a q : Nat} (d : decode code pc = .ok (.aload_n k, 1)) (hi : (k : Nat) = i) (hv : lv[q]? = some (i, .ref (P.1 + a))) (kk : LW p l e s m below meth c Q P D b lv (pc + 1) (mr a :: st) h) : LW p l e s m below meth c Q P D b lv pc st h := fun H locs la hl hR hV => lv_aload_n X.1 X.2.1 d hi (lv_at hl q hv) (kk H locs la hl hR hV)
theorem l_dup (X : LX P D p s m c b L xs) {a : Nat} (d : decode code pc = .ok (.dup, 1)) (kk : LW p l e s m below meth c Q P D b lv (pc + 1) (mr a :: mr a :: st) h) : LW p l e s m below meth c Q P D b lv pc (mr a :: st) h := fun H locs la hl hR hV => lv_dup X.1 X.2.1 d rfl (kk H locs la hl hR hV)
theorem l_astore (X : LX P D p s m c b L xs) {k : Fin 4} {i a : Nat} (d : decode code pc = .ok (.astore_n k, 1)) (hi : (k : Nat) = i) (hn : i < 4) (e1 : (i, Value.ref (P.1 + a)) :: lv.filter (fun q => !(q.1 == i) && !(q.1 + 1 == i && q.2.category == 2)) = lv') (kk : LW p l e s m below meth c Q P D b lv' (pc + 1) st h) : LW p l e s m below meth c Q P D b lv pc (mr a :: st) h := fun H locs la hl hR hV => lv_astore_n X.1 X.2.1 d hi hl hn e1 (fun la' hl' => kk H locs la' hl' hR hV)
theorem l_istore (X : LX P D p s m c b L xs) {k : Fin 4} {i : Nat} {a : Int} (d : decode code pc = .ok (.istore_n k, 1)) (hi : (k : Nat) = i) (hn : i < 4) (e1 : (i, Value.int (Int32.ofInt a)) :: lv.filter (fun q => !(q.1 == i) && !(q.1 + 1 == i && q.2.category == 2)) = lv') (kk : LW p l e s m below meth c Q P D b lv' (pc + 1) st h) : LW p l e s m below meth c Q P D b lv pc (mi a :: st) h := fun H locs la hl hR hV => lv_istore_n X.1 X.2.1 d hi hl hn e1 (fun la' hl' => kk H locs la' hl' hR hV)
theorem l_goto (X : LX P D p s m c b L xs) {off : Int} {tgt : Nat} (d : decode code pc = .ok (.goto off, 3)) (ht : (pc : Int) + off = (tgt : Int)) (kk : LW p l e s m below meth c Q P D b lv tgt st h) : LW p l e s m below meth c Q P D b lv pc st h := fun H locs la hl hR hV => lv_goto X.1 X.2.1 d ht (kk H locs la hl hR hV)
/-- two equal answers -/
theorem l_same (X : LX P D p s m c b L xs) {x off : Int} {tgt : Nat} (d : decode code pc = .ok (.if_icmp .eq off, 3)) (ht : (pc : Int) + off = (tgt : Int)) (kk : LW p l e s m below meth c Q P D b lv tgt st h) : LW p l e s m below meth c Q P D b lv pc (mi x :: mi x :: st) h := fun H locs la hl hR hV => lv_icmp_eq X.1 X.2.1 d ht (fun _ => kk H locs la hl hR hV) (fun z => absurd rfl z)
theorem l_sub (X : LX P D p s m c b L xs) {i k : Nat} (d0 : decode code pc = .ok (.aload_n 0, 1)) (d1 : decode code (pc + 1) = .ok (.iload_n 3, 1)) (d2 : decode code (pc + 2) = .ok (.iconst (k : Int), 1)) (d3 : decode code (pc + 3) = .ok (.iadd, 1)) (d4 : decode code (pc + 4) = .ok (.iaload, 1)) (hv0 : lv[0]? = some (0, .ref b)) (hv3 : lv[3]? = some (3, .int (Int32.ofInt (i : Int)))) (hik : i + k < L) (hL : L ≤ 2560) (kk : LW p l e s m below meth c Q P D b lv (pc + 5) (mi (xs (i + k)).toInt :: st) h) : LW p l e s m below meth c Q P D b lv pc st h := by
  intro H locs la hl hR hV
  obtain ⟨hx, hb, hml, hown, hts, hK, hE, hX, hbl, hP1⟩ := X
  have hbA : ¬ mAo P b := by show ¬ P.1 ≤ b; omega
  refine lv_aload_n hx hb d0 rfl (lv_at hl 0 hv0) ?_
  refine lv_iload_n hx hb d1 rfl (lv_at hl 3 hv3) ?_
  refine lv_iconst (v := Int32.ofInt (k : Int)) hx hb d2 rfl ?_
  refine lv_iadd hx hb d3 ?_
  have e : Int32.ofInt (i : Int) + Int32.ofInt (k : Int) = Int32.ofInt ((i + k : Nat) : Int) := by rw [← Int32.ofInt_add]; rfl
  rw [e]
  have hcl : (Int32.ofInt ((i + k : Nat) : Int)).toNatClampNeg = i + k := by rw [o32_cl ⟨by omega, by omega⟩]; omega
  refine va_sld hx hb hX hbl hbA hV (o32_in ⟨by omega, by omega⟩ (by omega)) d4 ?_
  rw [hcl]
  have K := kk H locs la hl hR hV
  have e2 : mden P.1 (mi (xs (i + k)).toInt) = .int (xs (i + k)) := by show Value.int (Int32.ofInt _) = _; rw [Int32.ofInt_toInt]
  rw [List.map_cons, e2] at K
  exact K
theorem l_head (X : LX P D p s m c b L xs) {i : Nat} (d0 : decode code pc = .ok (.aload_n 0, 1)) (d1 : decode code (pc + 1) = .ok (.iload_n 3, 1)) (d4 : decode code (pc + 2) = .ok (.iaload, 1)) (hv0 : lv[0]? = some (0, .ref b)) (hv3 : lv[3]? = some (3, .int (Int32.ofInt (i : Int)))) (hik : i < L) (hL : L ≤ 2560) (kk : LW p l e s m below meth c Q P D b lv (pc + 3) (mi (xs i).toInt :: st) h) : LW p l e s m below meth c Q P D b lv pc st h := by
  intro H locs la hl hR hV
  obtain ⟨hx, hb, hml, hown, hts, hK, hE, hX, hbl, hP1⟩ := X
  have hbA : ¬ mAo P b := by show ¬ P.1 ≤ b; omega
  refine lv_aload_n hx hb d0 rfl (lv_at hl 0 hv0) ?_
  refine lv_iload_n hx hb d1 rfl (lv_at hl 3 hv3) ?_
  have hcl : (Int32.ofInt (i : Int)).toNatClampNeg = i := by rw [o32_cl ⟨by omega, by omega⟩]; omega
  refine va_sld hx hb hX hbl hbA hV (o32_in ⟨by omega, by omega⟩ (by omega)) d4 ?_
  rw [hcl]
  have K := kk H locs la hl hR hV
  have e2 : mden P.1 (mi (xs i).toInt) = .int (xs i) := by show Value.int (Int32.ofInt _) = _; rw [Int32.ofInt_toInt]
  rw [List.map_cons, e2] at K
  exact K
/-- a call of one of the two objects -/
theorem l_callV (X : LX P D p s m c b L xs) {M2 : mM} {idx r ci n : Nat} {fs : List (Option (Option Nat))} {q : vw_C} {v : Option mV} (as rest : List mV) (d : decode code pc = .ok (.invokevirtual idx, 3)) (ok : mOkB RL idx M2 n) (fit : M2.2.2.2.2.1 + 1 ≤ 11 ∧ 8 + (M2.2.2.1 + 11) + M2.2.2.2.2.2 ≤ 440) (w1 : Cond.instanceMethod M2.1 ∈ gtbl) (w2 : Cond.selects M2.1.cls M2.1 M2.1 ∈ gtbl) (hs : st = as.reverse ++ mr r :: rest) (hr : h.1[r]? = some (.inl (ci, fs))) (hq : mcl[ci]? = some q) (hqc : q.1 = M2.1.cls) (hn : as.length = n) (hw : mwt rest ≤ 8) (hc : mCt M2 (mr r :: as) h v h2) (hcs : h2.1.length ≤ 600000 ∧ mS h2 ≤ 7302250) (kk : LW p l e s m below meth c Q P D b lv (pc + 3) (v.toList ++ rest) h2) : LW p l e s m below meth c Q P D b lv pc st h := by
  subst hs
  intro H locs la hl hR hV
  obtain ⟨k1, k2, k3, k4, k5⟩ := ok
  obtain ⟨hx, hb, hml, hown, hts, hK, hE, hX, hbl, hP1⟩ := X
  obtain ⟨fr, lo⟩ := fit
  have hM := hc.2 l P D
  obtain ⟨q', h1, cell, g1, g2, g3, -⟩ := hR.2 r _ hr
  have hrecv : ∃ cellB : Cell, H[P.1 + r]? = some cellB ∧ cellB.vm.isStatics = false ∧ s.vm.findClass M2.1.cls = some cellB.cls := ⟨cell, g1, by rw [g3]; rfl, by rw [g2, ← hqc]; exact (hK.1 ci q hq).2.1⟩
  have hpre := m_pre (as := mr r :: as) hK hE hV hR
  have hstk : ((as.reverse ++ mr r :: rest).map (mden P.1)) = (as.map (mden P.1)).reverse ++ .ref (P.1 + r) :: rest.map (mden P.1) := by simp [mden, va_rf]
  have hfit : h.1.length + (h2.1.length - h.1.length) ≤ room_1.cells ∧ mS h + (mS h2 - mS h) ≤ room_1.slots := by
    have := hc.1
    show h.1.length + (h2.1.length - h.1.length) ≤ 600000 ∧ mS h + (mS h2 - mS h) ≤ 7302250
    omega
  have hfin : ∀ (H2 : Heap) (locs2 : List Loc), mRz P D h2 H2 → va_S (mAo P) s.heap H2 locs2 → W p l e room_1 s m #[Value.ref b] below meth c H2 locs2 (h.1.length + (h2.1.length - h.1.length)) (mS h + (mS h2 - mS h)) Q (F0 m (pc + 3) la ((v.map (mden P.1)).toList ++ rest.map (mden P.1))) := by
    intro H2 locs2 hR2 hV2
    have K := kk H2 locs2 la hl hR2 hV2
    have e3 : (v.toList ++ rest).map (mden P.1) = (v.map (mden P.1)).toList ++ rest.map (mden P.1) := by cases v <;> rfl
    rw [e3] at K
    have := hc.1
    rw [show h.1.length + (h2.1.length - h.1.length) = h2.1.length by omega, show mS h + (mS h2 - mS h) = mS h2 by omega]
    exact K
  rcases k5 with k5 | k5
  · exact w_run (va_runV (Ts := gtbl) (As := as.map (mden P.1)) (rest := rest.map (mden P.1)) ⟨hx, hb, hml, hown, hts⟩ hM ⟨⟨rfl, rfl, fr, lo, m_words hts k2, List.mem_cons_self, hts _ k2, hts _ k1, k3, m_len k4, hts _ k5⟩, hts _ w1, hts _ w2⟩ ⟨mPc_blind, hrecv, hpre⟩ rfl (by rw [List.length_map]; exact hn) hl.1 hstk (lv_room (by rw [mwt_den]; exact hw)) d hfit) hV hfin
  · exact w_run (va_runVN (Ts := gtbl) (As := as.map (mden P.1)) (rest := rest.map (mden P.1)) (host := RX8) ⟨hx, hb, hml, hown, hts⟩ hM ⟨⟨⟨rfl, rfl, fr, lo, m_words hts k2, List.mem_cons_self⟩, hts _ k2, hts _ k1, k3, m_len k4, va_Nw.use rfl (hE.1 _ k5)⟩, hts _ w1, hts _ w2⟩ ⟨mPc_blind, hrecv, hpre⟩ rfl (by rw [List.length_map]; exact hn) hl.1 hstk (lv_room (by rw [mwt_den]; exact hw)) d hfit) hV hfin
/-- a constructor -/
theorem l_callI (X : LX P D p s m c b L xs) {M2 : mM} {idx r n : Nat} (as rest : List mV) (d : decode code pc = .ok (.invokespecial idx, 3)) (ok : mOkB RL idx M2 n) (fit : M2.2.2.2.2.1 + 1 ≤ 11 ∧ 8 + (M2.2.2.1 + 11) + M2.2.2.2.2.2 ≤ 440) (w1 : Cond.instanceMethod M2.1 ∈ gtbl) (hnm : M2.1.name = "<init>") (hrt : M2.2.2.2.1 = none) (hs : st = as.reverse ++ mr r :: rest) (hn : as.length = n) (hw : mwt rest ≤ 8) (hc : mCt M2 (mr r :: as) h none h2) (hcs : h2.1.length ≤ 600000 ∧ mS h2 ≤ 7302250) (kk : LW p l e s m below meth c Q P D b lv (pc + 3) rest h2) : LW p l e s m below meth c Q P D b lv pc st h := by
  subst hs
  intro H locs la hl hR hV
  obtain ⟨k1, k2, k3, k4, k5⟩ := ok
  obtain ⟨hx, hb, hml, hown, hts, hK, hE, hX, hbl, hP1⟩ := X
  obtain ⟨fr, lo⟩ := fit
  have hM := hc.2 l P D
  have hpre := m_pre (as := mr r :: as) hK hE hV hR
  have hstk : ((as.reverse ++ mr r :: rest).map (mden P.1)) = (as.map (mden P.1)).reverse ++ .ref (P.1 + r) :: rest.map (mden P.1) := by simp [mden, va_rf]
  have hfit : h.1.length + (h2.1.length - h.1.length) ≤ room_1.cells ∧ mS h + (mS h2 - mS h) ≤ room_1.slots := by
    have := hc.1
    show h.1.length + (h2.1.length - h.1.length) ≤ 600000 ∧ mS h + (mS h2 - mS h) ≤ 7302250
    omega
  have hfin : ∀ (H2 : Heap) (locs2 : List Loc), mRz P D h2 H2 → va_S (mAo P) s.heap H2 locs2 → W p l e room_1 s m #[Value.ref b] below meth c H2 locs2 (h.1.length + (h2.1.length - h.1.length)) (mS h + (mS h2 - mS h)) Q (F0 m (pc + 3) la ((Option.map (mden P.1) (none : Option mV)).toList ++ rest.map (mden P.1))) := by
    intro H2 locs2 hR2 hV2
    have K := kk H2 locs2 la hl hR2 hV2
    have := hc.1
    rw [show h.1.length + (h2.1.length - h.1.length) = h2.1.length by omega, show mS h + (mS h2 - mS h) = mS h2 by omega]
    exact K
  have k2' : Cond.code M2.1 M2.2.1 M2.2.2.1 none ∈ mwsM M2 := by rw [← hrt]; exact List.mem_cons_self
  have k2'' : Cond.code M2.1 M2.2.1 M2.2.2.1 none ∈ gtbl := by rw [← hrt]; exact k2
  rcases k5 with k5 | k5
  · exact w_run (va_runI (Ts := gtbl) (bytes := M2.2.1) (maxL := M2.2.2.1) (As := as.map (mden P.1)) (rest := rest.map (mden P.1)) ⟨hx, hb, hml, hown, hts⟩ hM ⟨⟨rfl, rfl, fr, lo, m_words hts k2, k2', hts _ k2'', hts _ k1, k3, m_len k4, hts _ k5⟩, hnm, hts _ w1⟩ ⟨mPc_blind, hpre⟩ rfl (by rw [List.length_map]; exact hn) hl.1 hstk (lv_room (by rw [mwt_den]; exact hw)) d hfit) hV hfin
  · exact w_run (va_runIN (Ts := gtbl) (bytes := M2.2.1) (maxL := M2.2.2.1) (As := as.map (mden P.1)) (rest := rest.map (mden P.1)) (host := RX8) ⟨hx, hb, hml, hown, hts⟩ hM ⟨⟨⟨rfl, rfl, fr, lo, m_words hts k2, k2'⟩, hts _ k2'', hts _ k1, k3, m_len k4, va_Nw.use rfl (hE.1 _ k5)⟩, hnm, hts _ w1⟩ ⟨mPc_blind, hpre⟩ rfl (by rw [List.length_map]; exact hn) hl.1 hstk (lv_room (by rw [mwt_den]; exact hw)) d hfit) hV hfin
theorem l_new (X : LX P D p s m c b L xs) {σ : List mC} {I : mI} {idx ci : Nat} {q : vw_C} {fs : List (Option (Option Nat))} (d : decode code pc = .ok (.new idx, 3)) (hq : mcl[ci]? = some q) (w1 : Cond.classLink RL idx q.1 ∈ gtbl) (w2 : Cond.instantiable q.1 q.2.2 ∈ gtbl) (w3 : Cond.initialized q.1 ∈ gtbl) (hN : fs.length = q.2.2) (hf : ∀ j, j < q.2.2 → (fs[j]? = some none ∧ mty ci j = .int) ∨ (fs[j]? = some (some none) ∧ ((∃ n, mty ci j = .object n) ∨ ∃ t, mty ci j = .array t))) (hcs : σ.length + 1 ≤ 600000 ∧ mS (σ, I) + q.2.2 ≤ 7302250) (kk : LW p l e s m below meth c Q P D b lv (pc + 3) (mr σ.length :: st) (σ ++ [.inl (ci, fs)], mzr I σ.length)) : LW p l e s m below meth c Q P D b lv pc st (σ, I) := by
  intro H locs la hl hR hV
  obtain ⟨hx, hb, hml, hown, hts, hK, hE, hX, hbl, hP1⟩ := X
  have hmS : mS (σ ++ [.inl (ci, fs)], mzr I σ.length) = mS (σ, I) + q.2.2 := by rw [mS_push, ← hN]; rfl
  have hKn := hK.1 ci _ hq
  have hH : H.size = P.1 + σ.length := hR.1
  refine W.newcK hx hb hown (hts _ w1) (hts _ w2) (hts _ w3) rfl d hcs.1 hcs.2 hKn.2.1 hH fun H1 kC hkC e1 z1 o1 => ?_
  have K := kk H1 locs la hl (hR.push (by omega) (fun q hq => o1 q (by omega)) (fun j hj => by funext k'; simp only [mzr]; rw [if_neg (by omega)]) ?_) ⟨Nat.le_trans hV.1 (by omega), fun x h1 h2 => (o1 x (by have := hV.1; omega)).trans (hV.2.1 x h1 h2), hV.2.2⟩
  · rw [hmS, List.length_append, List.length_singleton] at K
    exact K
  exact ⟨_, hq, (u_born (mty ci) hts (mcl_ok ci _ hq).1 hKn hkC e1 (mcl_ok ci _ hq).2.1).to (vp_mx0 hN (fun j => by simp [mzr]) hf)⟩
end LAWR
