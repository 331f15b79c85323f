/-! ===== both at once: what holds between two calls ===== -/
theorem RC.lo {I K : mI} {S : Sx} (h : RC I S) (hL : LdOk (sL S)) (h2 : (sK S).1 ≤ 2) (hf : ∀ r, r < 144 → K r = I r) : RC K S := by
  obtain ⟨a1, a2, a3, a4, a5, a6, a7, a8⟩ := h
  refine ⟨a1.fr (hf 1 (by omega)) (hf 2 (by omega)), a2.fr (fun r p q => hf r (by omega)), a3.fr hL (fun r p q => hf r (by omega)) (hf 23 (by omega)), by rw [hf 102 (by omega)]; exact a4, fun k hk => (a5 k hk).fr hL (fun r p q => hf r (by omega)) (hf 23 (by omega)), by rw [hf 0 (by omega)]; exact a6, fun k hk => by rw [hf 121 (by omega), hf 123 (by omega)]; exact a7 k hk, by rw [hf 36 (by omega)]; exact a8⟩
theorem UpC.lo {σ : List mC} {I K : mI} {S : Sx} (h : UpC σ I S) (hL : LdOk (sL S)) (h8 : (sU S).1 ≤ 8) (hf : ∀ r, r < 144 → K r = I r) : UpC σ K S := by
  obtain ⟨q, h1, h2, h3, h4⟩ := h
  refine ⟨q, h1, h2, h3, fun k hk => (h4 k hk).fr hL (fun r p z => hf r ?_) (hf 23 (by omega))⟩
  have := h1 k (by omega)
  omega
theorem CS.lo {σ : List mC} {I K : mI} {S : Sx} {B : Int} (h : CS σ I S) (hS : SxOk B S) (hK : Nrm K) (hf : ∀ r, r < 144 → K r = I r) : CS σ K S := ⟨hK, h.2.1, h.2.2.1.lo hS.1 hS.2.2.1 hf, h.2.2.2.lo hS.1 hS.2.2.2.2.1 hf⟩
theorem RM.hi {I K : mI} {S : Sx} (h : RM I S) (hL : LdOk (sL S)) (hf : ∀ r, 144 ≤ r → K r = I r) : RM K S := by
  obtain ⟨a1, a2, a3, a4, a5, a6, a7, a8, a9, b1, b2, b3, b4⟩ := h
  have e := hf 144 (Nat.le_refl 144)
  refine ⟨by rw [e]; exact a1, fun k hk => by rw [hf 152 (by decide)]; exact a2 k hk, a3, a4, a5.fr (by rw [e]) (by rw [e]) (by rw [e]) (by rw [e]) (hf 145 (by decide)) (hf 146 (by decide)), a6.fr hL (fun k _ _ => by rw [hf 147 (by decide)]), by rw [e]; exact a7, fun k hk => (a8 k hk).fr hL (fun k _ _ => by rw [hf 149 (by decide)]), by rw [e]; exact a9, fun k hk => (b1 k hk).fr hL (fun k _ _ => by rw [hf 150 (by decide)]), by rw [e]; exact b2, fun k hk => by rw [hf 151 (by decide)]; exact b3 k hk, by rw [e]; exact b4⟩
theorem IsMd.hi {σ σ' : List mC} (h : IsMd σ) (hs : ∀ k, 144 ≤ k → σ'[k]? = σ[k]?) : IsMd σ' := by
  obtain ⟨h0, h1, h2, h3, h4, h5, h6, h7, h8, h9, h10, h11, h12, h13, h14, h15⟩ := h
  exact ⟨(hs 144 (by decide)).trans h0, (hs 145 (by decide)).trans h1, (hs 146 (by decide)).trans h2, (hs 147 (by decide)).trans h3, (hs 148 (by decide)).trans h4, (hs 149 (by decide)).trans h5, (hs 150 (by decide)).trans h6, (hs 151 (by decide)).trans h7, (hs 152 (by decide)).trans h8, (hs 153 (by decide)).trans h9, (hs 154 (by decide)).trans h10, (hs 155 (by decide)).trans h11, (hs 156 (by decide)).trans h12, (hs 157 (by decide)).trans h13, (hs 158 (by decide)).trans h14, (hs 159 (by decide)).trans h15⟩
theorem MS.hi {σ σ' : List mC} {I K : mI} {S : Sx} {B : Int} (h : MS σ I S) (hS : SxOk B S) (hK : Nrm K) (hf : ∀ r, 144 ≤ r → K r = I r) (hs : ∀ k, 144 ≤ k → σ'[k]? = σ[k]?) : MS σ' K S := ⟨hK, h.2.1.hi hs, h.2.2.hi hS.1 hf⟩
def LI (σ : List mC) (I : mI) (S : Sx) : Prop := σ.map msz = bAll.map msz ∧ CS σ I S ∧ MS σ I S
theorem bA_sz : (bAll.map msz).length ≤ 600000 ∧ (bAll.map msz).sum ≤ 7302250 := by decide +kernel
theorem ls_ok {σ : List mC} {I : mI} (h : σ.map msz = bAll.map msz) : σ.length ≤ 600000 ∧ mS (σ, I) ≤ 7302250 := by
  refine ⟨?_, ?_⟩
  · rw [← List.length_map (f := msz), h]; exact bA_sz.1
  · show (σ.map msz).sum ≤ 7302250
    rw [h]; exact bA_sz.2
theorem l_pair {σ : List mC} {I : mI} {S Z : Sx} {A B C : Int} {M8 M9 : mM} {as : List mV} (h : LI σ I S) (hS : SxOk B S) (hZ : SxOk C Z) (hf : mMt M8 (mr 0 :: as) (σ, I) (Out σ I Z A)) (hg : ∀ (σ' : List mC) (K : mI), MS σ' K S → mMt M9 (mr 144 :: as) (σ', K) (OutM σ' K Z A)) : ∃ (σ' : List mC) (K K2 : mI), mCt M8 (mr 0 :: as) (σ, I) (some (mi A)) (σ', K) ∧ mCt M9 (mr 144 :: as) (σ', K) (some (mi A)) (σ', K2) ∧ IsMd σ' ∧ LI σ' K2 Z := by
  obtain ⟨v, h1, c8, rfl, σ', K, rfl, f1, f2, f3, hC'⟩ := hf
  have hM' := h.2.2.hi hS hC'.1 f1 f2
  obtain ⟨v2, h2, c9, rfl, K2, rfl, g1, hM2⟩ := hg σ' K hM'
  exact ⟨σ', K, K2, c8, c9, hM'.2.1, f3.trans h.1, hC'.lo hZ hM2.1 g1, hM2⟩
/-- the law's numbers while it reads the script -/
def lvI (P : mP) (b i : Nat) : List (Nat × Value) := [(0, .ref b), (1, .ref (P.1 + 0)), (2, .ref (P.1 + 144)), (3, .int (Int32.ofInt (i : Int)))]
section LAWS
variable {p : Program} {l : Launch} {e : Env} {s : State} {m : MethodId} {below : List Frame} {meth : Method} {c : Code} {Q : State → Prop} {P : mP} {D : va_G} {b L : Nat} {xs : Nat → Int32} {st : List mV} {h : mH}
/-- the end of a round -/
theorem l_next (X : LX P D p s m c b L xs) {i : Nat} (hi : i ≤ 2560) (kk : LW p l e s m below meth c Q P D b (lvI P b (i + 5)) 18 [] h) : LW p l e s m below meth c Q P D b (lvI P b i) 1109 [] h := by
  intro H locs la hl hR hV
  have e5 : Int32.ofInt (i : Int) + Int32.ofInt 5 = Int32.ofInt ((i + 5 : Nat) : Int) := by rw [← Int32.ofInt_add]; rfl
  refine lv_iinc (k := 3) (v := Int32.ofInt ((i + 5 : Nat) : Int)) (lv' := [(3, .int (Int32.ofInt ((i + 5 : Nat) : Int))), (0, .ref b), (1, .ref (P.1 + 0)), (2, .ref (P.1 + 144))]) X.1 X.2.1 dL_law_1109 hl rfl e5 (by decide) rfl (fun la' hl' => ?_)
  refine lv_goto (tgt := 18) X.1 X.2.1 dL_law_1112 (by decide) ?_
  exact kk H locs la' (lv_sub hl' [1, 2, 3, 0] rfl) hR hV
/-- is there another call in the script -/
theorem l_test (X : LX P D p s m c b L xs) {i : Nat} (hi : i ≤ 2560) (hL : L ≤ 2560) (kt : L < i + 5 → LW p l e s m below meth c Q P D b (lvI P b i) 1115 [] h) (kf : i + 5 ≤ L → LW p l e s m below meth c Q P D b (lvI P b i) 26 [] h) : LW p l e s m below meth c Q P D b (lvI P b i) 18 [] h := by
  intro H locs la hl hR hV
  have kt := fun q => kt q H locs la hl hR hV
  have kf := fun q => kf q H locs la hl hR hV
  obtain ⟨hx, hb, hml, hown, hts, hK, hE, hX, hbl, hP1⟩ := X
  have hbA : ¬ mAo P b := by show ¬ P.1 ≤ b; omega
  refine lv_iload_n hx hb dL_law_18 rfl (lv_at hl 3 rfl) ?_
  refine lv_aload_n hx hb dL_law_19 rfl (lv_at hl 0 rfl) ?_
  refine va_slen hx hb hX hbl hbA hV dL_law_20 ?_
  refine lv_iconst (v := Int32.ofInt 5) hx hb dL_law_21 rfl ?_
  refine lv_isub hx hb dL_law_22 ?_
  have e5 : Int32.ofNat L - Int32.ofInt 5 = Int32.ofInt ((L : Int) - 5) := by
    have e0 : Int32.ofNat L = Int32.ofInt (L : Int) := rfl
    rw [e0, ← Int32.ofInt_sub]
  have hlt : (Int32.ofNat L - Int32.ofInt 5 < Int32.ofInt (i : Int)) ↔ (L : Int) - 5 < (i : Int) := by
    rw [e5, Int32.lt_iff_toInt_lt, Int32.toInt_ofInt_of_le (by omega) (by omega), Int32.toInt_ofInt_of_le (by omega) (by omega)]
  refine lv_icmp_gt (tgt := 1115) hx hb dL_law_23 (by decide) (fun q => ?_) (fun q => ?_)
  · exact kt (by have := hlt.mp q; omega)
  · exact kf (by have : ¬ ((L : Int) - 5 < (i : Int)) := fun z => q (hlt.mpr z); omega)
/-- which call it is: the script's int, its six lowest bits -/
theorem l_sw (X : LX P D p s m c b L xs) {i : Nat} (hi : i + 5 ≤ L) (hL : L ≤ 2560) (kt : ∀ (j tgt : Nat) (off : Int), j ≤ 32 → (#[148, 171, 184, 197, 210, 233, 276, 299, 332, 385, 418, 441, 464, 507, 540, 573, 586, 609, 632, 675, 698, 721, 754, 797, 830, 863, 876, 889, 932, 985, 1028, 1041, 1054] : Array Int)[j]? = some off → ((32 : Nat) : Int) + off = (tgt : Int) → LW p l e s m below meth c Q P D b (lvI P b i) tgt [] h) (kf : LW p l e s m below meth c Q P D b (lvI P b i) 1109 [] h) : LW p l e s m below meth c Q P D b (lvI P b i) 26 [] h := by
  refine l_head X (i := i) dL_law_26 dL_law_27 dL_law_28 rfl rfl (by omega) hL ?_
  intro H locs la hl hR hV
  refine lv_bipush (v := nI 63) X.1 X.2.1 dL_law_29 rfl ?_
  refine lv_iand X.1 X.2.1 dL_law_31 ?_
  obtain ⟨j, hj, ej⟩ := pk_andE (Int32.ofInt (xs i).toInt) (m := nI 63) 6 (by decide)
  rw [ej]
  have et : (nI j).toInt = (j : Int) := nI_toInt (by omega)
  by_cases h32 : j ≤ 32
  · obtain ⟨off, ho⟩ : ∃ off, (#[148, 171, 184, 197, 210, 233, 276, 299, 332, 385, 418, 441, 464, 507, 540, 573, 586, 609, 632, 675, 698, 721, 754, 797, 830, 863, 876, 889, 932, 985, 1028, 1041, 1054] : Array Int)[j]? = some off := ⟨_, Array.getElem?_eq_getElem (show j < 33 by omega)⟩
    have hpos : 0 ≤ (32 : Int) + off := by
      have : ∀ k : Fin 33, 0 ≤ (32 : Int) + (#[148, 171, 184, 197, 210, 233, 276, 299, 332, 385, 418, 441, 464, 507, 540, 573, 586, 609, 632, 675, 698, 721, 754, 797, 830, 863, 876, 889, 932, 985, 1028, 1041, 1054] : Array Int)[k.val]?.getD 0 := by decide +kernel
      have := this ⟨j, by omega⟩
      simp only [ho, Option.getD_some] at this
      exact this
    refine lv_tableIn (off := off) (tgt := (32 + off).toNat) X.1 X.2.1 dL_law_32 (by rw [et]; omega) (by rw [et]; omega) ?_ (by omega) ?_
    · rw [et, show ((j : Int) - 0).toNat = j by omega]; exact ho
    · exact kt j (32 + off).toNat off h32 ho (by omega) H locs la hl hR hV
  · refine lv_tableOut (tgt := 1109) X.1 X.2.1 dL_law_32 (Or.inr (by rw [et]; omega)) (by decide) ?_
    exact kf H locs la hl hR hV
end LAWS
