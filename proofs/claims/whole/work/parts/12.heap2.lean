/-! ===== arrays, making, calls ===== -/
section ARR
variable {Z : mZ} {M : mM} {pc : Nat} {ls : mL} {st : List mV} {σ : List mC} {I : mI}
theorem mK_int {P : mP} {D : va_G} {s : State} (hK : va_K D mcl (mtys P) s) : ArrOfT s (P.2 0) .int ∧ va_RA s (P.2 0) .int := hK.2 0 _ rfl
theorem q_alen {r n : Nat} (d : decode M.2.1 pc = .ok (.arraylength, 1)) (hr : σ[r]? = some (.inr (.inl n))) : mGo Z M pc ls (mr r :: st) (σ, I) (pc + 1) ls (mi (n : Int) :: st) (σ, I) := by
  refine ⟨⟨Nat.le_refl _, Nat.le_refl _⟩, ?_⟩
  intro P D p l e R s m args below meth c Q c0 s0 C hZ hc hs hC hS kk H locs la hl hR hV
  exact va_alen C.1 C.2.1 C.2.2.2.2.2.2.1 (hR.one hr) 0 0 rfl rfl (v := Int32.ofInt (n : Int)) Int32.ofInt_eq_ofNat.symm d (kk H locs la hl hR hV)
theorem q_alenR {r t : Nat} {rs : List (Option Nat)} (d : decode M.2.1 pc = .ok (.arraylength, 1)) (hr : σ[r]? = some (.inr (.inr (t, rs)))) (ht : t = 1 ∨ t = 2) : mGo Z M pc ls (mr r :: st) (σ, I) (pc + 1) ls (mi (rs.length : Int) :: st) (σ, I) := by
  refine ⟨⟨Nat.le_refl _, Nat.le_refl _⟩, ?_⟩
  intro P D p l e R s m args below meth c Q c0 s0 C hZ hc hs hC hS kk H locs la hl hR hV
  rcases ht with rfl | rfl
  · exact va_alen C.1 C.2.1 C.2.2.2.2.2.2.1 (hR.one hr) 0 1 rfl rfl (v := Int32.ofInt (rs.length : Int)) Int32.ofInt_eq_ofNat.symm d (kk H locs la hl hR hV)
  · exact va_alen C.1 C.2.1 C.2.2.2.2.2.2.1 (hR.one hr) 0 2 rfl rfl (v := Int32.ofInt (rs.length : Int)) Int32.ofInt_eq_ofNat.symm d (kk H locs la hl hR hV)
theorem q_iald {r n : Nat} {i : Int} (d : decode M.2.1 pc = .ok (.iaload, 1)) (hr : σ[r]? = some (.inr (.inl n))) (hi : 0 ≤ i ∧ i < (n : Int)) (hn : n < 2147483648) : mGo Z M pc ls (mi i :: mr r :: st) (σ, I) (pc + 1) ls (mi (I r i.toNat) :: st) (σ, I) := by
  refine ⟨⟨Nat.le_refl _, Nat.le_refl _⟩, ?_⟩
  intro P D p l e R s m args below meth c Q c0 s0 C hZ hc hs hC hS kk H locs la hl hR hV
  refine va_iald C.1 C.2.1 C.2.2.2.2.2.2.1 (hR.one hr) 0 0 rfl rfl (o32_in hi hn) d ?_
  rw [o32_cl ⟨hi.1, by omega⟩]
  exact kk H locs la hl hR hV
theorem q_iast {r n : Nat} {i x : Int} (d : decode M.2.1 pc = .ok (.iastore, 1)) (hr : σ[r]? = some (.inr (.inl n))) (hi : 0 ≤ i ∧ i < (n : Int)) (hn : n < 2147483648) : mGo Z M pc ls (mi x :: mi i :: mr r :: st) (σ, I) (pc + 1) ls st (σ, mup I r i.toNat x) := by
  refine ⟨⟨Nat.le_refl _, Nat.le_refl _⟩, ?_⟩
  intro P D p l e R s m args below meth c Q c0 s0 C hZ hc hs hC hS kk H locs la hl hR hV
  have hin := o32_in hi hn
  refine W.iast C.1 C.2.1 (hR.2 r _ hr) ((mK_int C.2.2.2.2.2.2.1).1 n (fun j => .int (Int32.ofInt (I r j)))) (fun q => by cases q) (by show ¬ (Int32.ofInt i < 0 ∨ (arrV _ _ _).slots.size ≤ _); rw [arrV_size]; exact hin) rfl rfl d fun H1 e z oq => ?_
  refine kk H1 _ la hl (hR.put rfl z oq (fun _ _ => rfl) (fun c hc => Option.some.inj (hc.symm.trans hr)) (fun j hj => by funext k'; simp [mup, hj]) ?_) (hV.put z oq (show P.1 ≤ P.1 + r by omega))
  show H1[P.1 + r]? = some (vp_cell _ _)
  rw [e]
  show some ((arrV (P.2 0) n (fun j => .int (Int32.ofInt (I r j)))).setSlot _ _) = _
  rw [arrV_store, vp_cell_i, o32_cl ⟨hi.1, by omega⟩]
  congr 2
  funext q
  by_cases hq : q = i.toNat
  · subst hq
    simp [updV, mup]
  · simp [updV, mup, hq]
def mek (t : Nat) : Nat := if t = 1 then 6 else 0
theorem q_aald {r t : Nat} {i : Int} {rs : List (Option Nat)} (d : decode M.2.1 pc = .ok (.aaload, 1)) (hr : σ[r]? = some (.inr (.inr (t, rs)))) (ht : t = 1 ∨ t = 2) (hi : 0 ≤ i ∧ i < (rs.length : Int)) (hn : rs.length < 2147483648) : mGo Z M pc ls (mi i :: mr r :: st) (σ, I) (pc + 1) ls (mo (rs.getD i.toNat none) :: st) (σ, I) := by
  refine ⟨⟨Nat.le_refl _, Nat.le_refl _⟩, ?_⟩
  intro P D p l e R s m args below meth c Q c0 s0 C hZ hc hs hC hS kk H locs la hl hR hV
  have K := kk H locs la hl hR hV
  rcases ht with rfl | rfl
  · refine va_aldq (C := RX6) C.1 C.2.1 C.2.2.2.2.2.2.1 (hR.one hr) 0 1 rfl rfl (o32_in hi hn) d ?_
    rw [o32_cl ⟨hi.1, by omega⟩]
    exact K
  · refine va_aldq (C := RX0) C.1 C.2.1 C.2.2.2.2.2.2.1 (hR.one hr) 0 2 rfl rfl (o32_in hi hn) d ?_
    rw [o32_cl ⟨hi.1, by omega⟩]
    exact K
theorem q_aast {r t v : Nat} {i : Int} {rs : List (Option Nat)} {fs : List (Option (Option Nat))} (d : decode M.2.1 pc = .ok (.aastore, 1)) (hr : σ[r]? = some (.inr (.inr (t, rs)))) (ht : t = 1 ∨ t = 2) (hv : σ[v]? = some (.inl (mek t, fs))) (hi : 0 ≤ i ∧ i < (rs.length : Int)) (hn : rs.length < 2147483648) : mGo Z M pc ls (mr v :: mi i :: mr r :: st) (σ, I) (pc + 1) ls st (σ.set r (.inr (.inr (t, rs.set i.toNat (some v)))), I) := by
  have hsz : mS (σ.set r (.inr (.inr (t, rs.set i.toNat (some v)))), I) = mS (σ, I) := mS_set hr (by simp [msz])
  refine ⟨⟨by simp, Nat.le_of_eq hsz.symm⟩, ?_⟩
  intro P D p l e R s m args below meth c Q c0 s0 C hZ hc hs hC hS kk H locs la hl hR hV
  have hK := C.2.2.2.2.2.2.1
  have hin := o32_in hi hn
  have hlt : (Int32.ofInt i).toNatClampNeg < rs.length := by rw [o32_cl ⟨hi.1, by omega⟩]; omega
  have h0 : ¬ Int32.ofInt i < 0 := fun q => hin (Or.inl q)
  have hrl := (List.getElem?_eq_some_iff.mp hr).1
  obtain ⟨q, hq, hE⟩ : ∃ q : vw_C, mcl[mek t]? = some q ∧ (mtys P)[t]? = some (P.2 t, .object q.1) := by
    rcases ht with rfl | rfl
    · exact ⟨_, rfl, rfl⟩
    · exact ⟨_, rfl, rfl⟩
  obtain ⟨r', hr', cellV, g1, g2, g3, -⟩ := hR.2 v _ hv
  have hcls := (hK.1 (mek t) q hq).2
  obtain ⟨kA, comp, k1, k2, k3, -⟩ := (hK.2 t _ hE).2
  have hcomp : comp = D.1 (mek t) := Option.some.inj (k3.symm.trans hcls.1)
  subst hcomp
  obtain ⟨kC, hkC, -⟩ := hcls.2
  refine W.aast C.1 C.2.1 (hR.2 r _ hr) (fun q h => by cases h) (fun h => by cases h) k1 k2 rfl hkC ⟨h0, by show _ < (arrV _ _ _).slots.size; rw [arrV_size]; exact hlt⟩ g1 (fun q h => by rw [g3] at h; cases h) (by rw [g2]; exact hkC) (by rw [g2]; exact va_assign hcls) rfl rfl d fun H1 e z oq => ?_
  have K := kk H1 (locs ++ [⟨P.1 + r, (Int32.ofInt i).toNatClampNeg⟩]) la hl (hR.put (by simp) z oq (fun j hj => List.getElem?_set_ne (Ne.symm hj)) (fun c hc => by rw [List.getElem?_set_self hrl] at hc; exact (Option.some.inj hc).symm) (fun j hj => rfl) ?_) (hV.put z oq (show P.1 ≤ P.1 + r by omega))
  · rw [hsz] at K
    rw [show ((σ.set r (.inr (.inr (t, rs.set i.toNat (some v)))), I) : mH).1.length = σ.length by simp] at K
    exact K
  show H1[P.1 + r]? = some (vp_cell _ _)
  rw [e]
  show some ((arrV (P.2 t) rs.length (fun j => va_rf ((rs.getD j none).map (fun r => P.1 + r)))).setSlot _ _) = _
  rw [arrV_store, vp_cell_q, List.length_set, o32_cl ⟨hi.1, by omega⟩]
  congr 2
  funext j
  by_cases hj : j = i.toNat
  · subst hj
    have hjl : i.toNat < rs.length := by omega
    simp [updV, va_rf, List.getD_eq_getElem?_getD, hjl]
  · simp only [updV, if_neg hj, List.getD_eq_getElem?_getD]
    rw [List.getElem?_set_ne (Ne.symm hj)]
/-! making -/
theorem vp_mx0 {P : mP} {J : Nat → Int} {fs : List (Option (Option Nat))} {N : Nat} {ty : Nat → FieldType} (hN : fs.length = N) (hJ : ∀ j, J j = 0) (hf : ∀ j, j < N → (fs[j]? = some none ∧ ty j = .int) ∨ (fs[j]? = some (some none) ∧ ((∃ n, ty j = .object n) ∨ ∃ t, ty j = .array t))) : ∀ j, j < N → defaultValue (ty j) = vp_V (fs.mapIdx (fun k f => mfl P.1 J k f)) j := by
  intro j hj
  rw [vp_mx]
  rcases hf j hj with ⟨h1, h2⟩ | ⟨h1, ⟨n, h2⟩ | ⟨t, h2⟩⟩
  · rw [h1, h2]
    simp only [Option.map_some, Option.getD_some, mfl, hJ]
    rfl
  · rw [h1, h2]; rfl
  · rw [h1, h2]; rfl
theorem q_new {idx ci : Nat} {q : vw_C} {fs : List (Option (Option Nat))} (d : decode M.2.1 pc = .ok (.new idx, 3)) (hq : mcl[ci]? = some q) (w1 : Cond.classLink M.1.cls idx q.1 ∈ gtbl) (w2 : Cond.instantiable q.1 q.2.2 ∈ gtbl) (w3 : Cond.initialized q.1 ∈ gtbl) (hN : fs.length = q.2.2) (hf : ∀ j, j < q.2.2 → (fs[j]? = some none ∧ mty ci j = .int) ∨ (fs[j]? = some (some none) ∧ ((∃ n, mty ci j = .object n) ∨ ∃ t, mty ci j = .array t))) : mGo Z M pc ls st (σ, I) (pc + 3) ls (mr σ.length :: st) (σ ++ [.inl (ci, fs)], mzr I σ.length) := by
  have hmS : mS (σ ++ [.inl (ci, fs)], mzr I σ.length) = mS (σ, I) + q.2.2 := by rw [mS_push, ← hN]; rfl
  refine ⟨⟨by simp, by rw [hmS]; omega⟩, ?_⟩
  intro P D p l e R s m args below meth c Q c0 s0 C hZ hc0 hs0 hC hS kk H locs la hl hR hV
  have hc0 : c0 ≤ σ.length := hc0
  rw [hmS] at hS
  have hC : (σ ++ [(.inl (ci, fs) : mC)]).length - c0 ≤ R.cells := hC
  rw [List.length_append, List.length_singleton] at hC
  have hts := C.2.2.2.2.2.1
  have hKn := C.2.2.2.2.2.2.1.1 ci _ hq
  have hH : H.size = P.1 + σ.length := hR.1
  have hcl : (σ, I).1.length - c0 + 1 ≤ R.cells := by show σ.length - c0 + 1 ≤ R.cells; omega
  have hsl : mS (σ, I) - s0 + q.2.2 ≤ R.slots := by omega
  refine W.newcK C.1 C.2.1 C.2.2.2.1 (hts _ w1) (hts _ w2) (hts _ w3) rfl d hcl hsl hKn.2.1 hH fun H1 kC hkC e1 z1 o1 => ?_
  have K := kk H1 locs la hl (hR.push (by omega) (fun q hq => o1 q (by omega)) (fun j hj => by funext k'; simp only [mzr]; rw [if_neg (by omega)]) ?_) ⟨Nat.le_trans hV.1 (by omega), fun x h1 h2 => (o1 x (by have := hV.1; omega)).trans (hV.2.1 x h1 h2), hV.2.2⟩
  · rw [hmS] at K
    rw [show ((σ ++ [.inl (ci, fs)], mzr I σ.length) : mH).1.length - c0 = (σ, I).1.length - c0 + 1 by simp only [List.length_append, List.length_singleton]; omega, show mS (σ, I) + q.2.2 - s0 = mS (σ, I) - s0 + q.2.2 by omega] at K
    exact K
  exact ⟨_, hq, (u_born (mty ci) hts (mcl_ok ci _ hq).1 hKn hkC e1 (mcl_ok ci _ hq).2.1).to (vp_mx0 hN (fun j => by simp [mzr]) hf)⟩
theorem q_newI {n : Int} (d : decode M.2.1 pc = .ok (.newarray .int, 2)) (w : Cond.arrayClass .int ∈ gtbl) (hn : 0 ≤ n ∧ n < 100000) : mGo Z M pc ls (mi n :: st) (σ, I) (pc + 2) ls (mr σ.length :: st) (σ ++ [.inr (.inl n.toNat)], mzr I σ.length) := by
  have hmS : mS (σ ++ [.inr (.inl n.toNat)], mzr I σ.length) = mS (σ, I) + n.toNat := by rw [mS_push]; rfl
  refine ⟨⟨by simp, by rw [hmS]; omega⟩, ?_⟩
  intro P D p l e R s m args below meth c Q c0 s0 C hZ hc0 hs0 hC hS kk H locs la hl hR hV
  have hc0 : c0 ≤ σ.length := hc0
  rw [hmS] at hS
  have hC : (σ ++ [(.inr (.inl n.toNat) : mC)]).length - c0 ≤ R.cells := hC
  rw [List.length_append, List.length_singleton] at hC
  have hts := C.2.2.2.2.2.1
  have hH : H.size = P.1 + σ.length := hR.1
  have hcl : (σ, I).1.length - c0 + 1 ≤ R.cells := by show σ.length - c0 + 1 ≤ R.cells; omega
  have hsl : mS (σ, I) - s0 + n.toNat ≤ R.slots := by omega
  have hneg : ¬ Int32.ofInt n < 0 := by rw [← z32, o32_lt ⟨by omega, by omega⟩ ⟨by decide, by decide⟩]; omega
  refine va_newaK C.1 C.2.1 (atype := .int) (hts _ w) rfl d rfl hneg (o32_cl ⟨hn.1, by omega⟩) (by show n.toNat * 4 ≤ _; omega) hcl hsl hH fun H1 cA e1 z1 o1 hAr hNm => ?_
  have hcA : cA = P.2 0 := by
    have h2 : s.vm.findClass ("[" ++ (FieldType.int).toString) = some (P.2 0) := (mK_int C.2.2.2.2.2.2.1).2
    exact Option.some.inj (hNm.symm.trans h2)
  subst hcA
  have K := kk H1 locs la hl (hR.push (by omega) (fun q hq => o1 q (by omega)) (fun j hj => by funext k'; simp only [mzr]; rw [if_neg (by omega)]) ?_) ⟨Nat.le_trans hV.1 (by omega), fun x h1 h2 => (o1 x (by have := hV.1; omega)).trans (hV.2.1 x h1 h2), hV.2.2⟩
  · rw [hmS] at K
    rw [show ((σ ++ [.inr (.inl n.toNat)], mzr I σ.length) : mH).1.length - c0 = (σ, I).1.length - c0 + 1 by simp only [List.length_append, List.length_singleton]; omega, show mS (σ, I) + n.toNat - s0 = mS (σ, I) - s0 + n.toNat by omega] at K
    exact K
  show H1[P.1 + σ.length]? = some (vp_cell _ _)
  rw [e1, vp_cell_i]
  congr 2
  funext j
  simp only [mzr, if_true]
  rfl
theorem q_newR {idx t : Nat} {n : Int} {q : vw_C} (d : decode M.2.1 pc = .ok (.anewarray idx, 3)) (ht : t = 1 ∨ t = 2) (hq : mcl[mek t]? = some q) (w : Cond.classLink M.1.cls idx q.1 ∈ gtbl) (hn : 0 ≤ n ∧ n < 100000) : mGo Z M pc ls (mi n :: st) (σ, I) (pc + 3) ls (mr σ.length :: st) (σ ++ [.inr (.inr (t, List.replicate n.toNat none))], I) := by
  have hmS : mS (σ ++ [.inr (.inr (t, List.replicate n.toNat none))], I) = mS (σ, I) + n.toNat := by rw [mS_push (I := I)]; simp [msz]
  refine ⟨⟨by simp, by rw [hmS]; omega⟩, ?_⟩
  intro P D p l e R s m args below meth c Q c0 s0 C hZ hc0 hs0 hC hS kk H locs la hl hR hV
  have hc0 : c0 ≤ σ.length := hc0
  rw [hmS] at hS
  have hC : (σ ++ [(.inr (.inr (t, List.replicate n.toNat none)) : mC)]).length - c0 ≤ R.cells := hC
  rw [List.length_append, List.length_singleton] at hC
  have hts := C.2.2.2.2.2.1
  have hK := C.2.2.2.2.2.2.1
  have hH : H.size = P.1 + σ.length := hR.1
  have hcl : (σ, I).1.length - c0 + 1 ≤ R.cells := by show σ.length - c0 + 1 ≤ R.cells; omega
  have hcl2 := o32_cl (a := n) ⟨hn.1, by omega⟩
  have hsl : mS (σ, I) - s0 + (Int32.ofInt n).toNatClampNeg ≤ R.slots := by rw [hcl2]; omega
  have hneg : ¬ Int32.ofInt n < 0 := by rw [← z32, o32_lt ⟨by omega, by omega⟩ ⟨by decide, by decide⟩]; omega
  have hE : (mtys P)[t]? = some (P.2 t, .object q.1) ∧ va_AO q.1 s := by
    rcases ht with rfl | rfl
    · cases hq; exact ⟨rfl, C.2.2.2.2.2.2.2.1.2.1⟩
    · cases hq; exact ⟨rfl, C.2.2.2.2.2.2.2.1.2.2.1⟩
  refine W.anew C.1 C.2.1 C.2.2.2.1 (hts _ w) (va_AO.use hE.2) rfl d rfl hneg (by rw [hcl2]; omega) hcl hsl fun cA kA comp f1 f2 f3 f4 => ?_
  have hcA : cA = P.2 t := by
    obtain ⟨kA', comp', g1, g2, g3, g4⟩ := (hK.2 t _ hE.1).2
    exact Option.some.inj (f1.symm.trans g4)
  subst hcA
  generalize hH1 : H.push ({ cls := P.2 t, slots := Array.replicate (Int32.ofInt n).toNatClampNeg .null, vm := .none } : Cell) = H1
  have z1 : H1.size = H.size + 1 := by rw [← hH1, Array.size_push]
  have e1 : H1[H.size]? = some (arrV (P.2 t) (Int32.ofInt n).toNatClampNeg (fun _ => .null)) := by rw [← hH1, Array.getElem?_push_size, ← arrV_new]
  have o1 : ∀ q : Nat, q < H.size → H1[q]? = H[q]? := fun q hq => by rw [← hH1, Array.getElem?_push, if_neg (Nat.ne_of_lt hq)]
  have K := kk H1 locs la hl (hR.push z1 o1 (fun j hj => rfl) ?_) ⟨Nat.le_trans hV.1 (by omega), fun x h1 h2 => (o1 x (by have := hV.1; omega)).trans (hV.2.1 x h1 h2), hV.2.2⟩
  · rw [hmS] at K
    rw [show ((σ ++ [.inr (.inr (t, List.replicate n.toNat none))], I) : mH).1.length - c0 = (σ, I).1.length - c0 + 1 by simp only [List.length_append, List.length_singleton]; omega, show mS (σ, I) + n.toNat - s0 = mS (σ, I) - s0 + n.toNat by omega] at K
    rw [hcl2, hH]
    exact K
  show H1[P.1 + σ.length]? = some (vp_cell _ _)
  rw [← hH, e1, vp_cell_q, List.length_replicate, hcl2]
  congr 2
  funext j
  have : (List.replicate n.toNat (none : Option Nat)).getD j none = none := by
    rw [List.getD_eq_getElem?_getD]
    cases hx : (List.replicate n.toNat (none : Option Nat))[j]? with
    | none => rfl
    | some y => rw [List.eq_of_mem_replicate (List.mem_of_getElem? hx)]; rfl
  rw [this]
  rfl
end ARR
