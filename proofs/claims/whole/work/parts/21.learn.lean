/-! ===== learning the ways; copying forests and lands; linking places ===== -/
theorem rat_fr {I J : mI} {r n : Nat} {i : Int} (h : J (r + 1) = I (r + 1)) : rat J r n i = rat I r n i := by simp [rat, h]
theorem tel_fr {I J : mI} {f l : Nat} {d x : Int} (h1 : J (f + 1 + 1) = I (f + 1 + 1)) (h2 : J (l + 1 + 1) = I (l + 1 + 1)) : tel J f l d x = tel I f l d x := by
  simp only [tel, rat_fr h1, rat_fr h2]
theorem tak_fr {I J : mI} {f l : Nat} {d x : Int} (h1 : J (f + 1 + 1) = I (f + 1 + 1)) (h2 : J (l + 1 + 1) = I (l + 1 + 1)) (h3 : J (l + 3 + 1) = I (l + 3 + 1)) : tak J f l d x = tak I f l d x := by
  simp only [tak, tel_fr h1 h2, rat_fr h3]
theorem hrs_rng {a b : Int} : 1 ≤ hrs a b ∧ hrs a b ≤ 1000000 := by
  unfold hrs
  split
  · split
    · omega
    · split
      · omega
      · split <;> omega
  · split
    · omega
    · split <;> omega
theorem cst_congr {P : Nat} {nb : Nat → Nat → Int} {e e' a : Nat → Int} (hn : ∀ x, x < P → ∀ s, s < 4 → nb x s = -4 ∨ (0 ≤ nb x s ∧ nb x s < P)) (he : ∀ y, y < P → e y = e' y) {x s : Nat} (hx : x < P) (hs : s < 4) : cst nb e a x s = cst nb e' a x s := by
  unfold cst
  rcases hn x hx s hs with q | q
  · rw [if_pos q, if_pos q]
  · rw [if_neg (by omega), if_neg (by omega), he _ (by omega)]
theorem bell_congr {P g : Nat} {nb : Nat → Nat → Int} {e e' a : Nat → Int} (hn : ∀ x, x < P → ∀ s, s < 4 → nb x s = -4 ∨ (0 ≤ nb x s ∧ nb x s < P)) (he : ∀ y, y < P → e y = e' y) (h : Bell P nb e g a) : Bell P nb e' g a := by
  refine ⟨h.1, h.2.1, fun x hx hg s hs => ?_, fun x hx hg => ?_⟩
  · rw [← cst_congr hn he hx hs]
    exact h.2.2.1 x hx hg s hs
  · rcases h.2.2.2 x hx hg with q | ⟨s, hs, q⟩
    · exact Or.inl q
    · exact Or.inr ⟨s, hs, by rw [← cst_congr hn he hx hs]; exact q⟩
theorem mup_ne {I : mI} {r k q j : Nat} {x : Int} (h : q ≠ r) : mup I r k x q j = I q j := by simp [mup, h]
theorem mup_nf {I : mI} {r k q : Nat} {x : Int} (h : q ≠ r) : mup I r k x q = I q := by funext j; simp [mup, h]
theorem mcp_ne {I : mI} {r1 r0 sp dp n q k : Nat} (h : q ≠ r1) : mcp I r1 r0 sp dp n q k = I q k := by simp [mcp, h]

set_option maxRecDepth 100000 in
theorem k_learnD_loop {σ : List mC} {I : mI} {w l f P g : Nat} {d : Int} (hw : IsWays σ w) (hl : IsLand σ l) (hf : IsForest σ f) (hP : P ≤ 36) (hPl : I l 3 = (P : Int)) (hgP : g < P) (hd : 0 ≤ d ∧ d < 1000) (hnb : ∀ x, x < P → ∀ s, s < 4 → nbC I l x s = -4 ∨ (0 ≤ nbC I l x s ∧ nbC I l x s < P)) (hwl : w + 5 ≤ l ∨ l + 7 ≤ w) (hwf : w + 5 ≤ f ∨ f + 8 ≤ w) {post : Option mV → mH → Prop} (kk : ∀ (J : mI), Nrm J → (∀ r, r ≠ w + 1 + 1 → J r = I r) → (∀ x, x < P → eC J w x = hrs (tak I f l d (x : Int)) (I f 2)) → mRun mZt mX7_learnByDrum 42 [some (mr w), some (mr l), some (mr f), some (mi d), some (mi (g : Int)), some (mi (P : Int))] [] (σ, J) post) : ∀ (n i : Nat) (J : mI), P - i < n → i ≤ P → Nrm J → (∀ r, r ≠ w + 1 + 1 → J r = I r) → (∀ x, x < i → eC J w x = hrs (tak I f l d (x : Int)) (I f 2)) → mRun mZt mX7_learnByDrum 3 [some (mr w), some (mr l), some (mr f), some (mi d), some (mi (g : Int)), some (mi (i : Int))] [] (σ, J) post := by
  intro n
  induction n with
  | zero => intro i J h; omega
  | succ n ih =>
    intro i J hn hi hJ hfr0 he
    have hPJ : J l 3 = (P : Int) := by rw [hfr0 l (by omega)]; exact hPl
    have hWJ : J f 2 = I f 2 := by rw [hfr0 f (by omega)]
    refine mRun.go (q_iload dX7_learnByDrum_3 rfl) ?_
    refine mRun.go (q_aload_n dX7_learnByDrum_5 rfl rfl) ?_
    refine mRun.go (q_getE (x := (P : Int)) dX7_learnByDrum_6 fo_X7_23 hl.1 rfl hPJ) ?_
    refine r_icmp_ge (tgt := 42) dX7_learnByDrum_9 (by decide) (by omega) (by omega) (fun c9 => ?_) (fun c9 => ?_)
    · have hiP : i = P := by omega
      subst hiP
      exact kk J hJ hfr0 he
    · refine mRun.go (q_aload_n dX7_learnByDrum_12 rfl rfl) ?_
      refine mRun.go (q_getR dX7_learnByDrum_13 fo_X7_14 hw.1 rfl) ?_
      refine mRun.go (q_iload dX7_learnByDrum_16 rfl) ?_
      refine mRun.go (q_aload_n dX7_learnByDrum_18 rfl rfl) ?_
      refine mRun.go (q_aload_n dX7_learnByDrum_19 rfl rfl) ?_
      refine mRun.go (q_iload_n dX7_learnByDrum_20 rfl rfl) ?_
      refine mRun.go (q_iload dX7_learnByDrum_21 rfl) ?_
      have htk := @k_takes σ J f l d (i : Int) hf hl hJ hd (by omega)
      rw [tak_fr (hfr0 _ (by omega)) (hfr0 _ (by omega)) (hfr0 _ (by omega))] at htk
      have htr : -2147483648 ≤ tak I f l d (i : Int) ∧ tak I f l d (i : Int) < 2147483648 := by rw [← tak_fr (J := J) (hfr0 _ (by omega)) (hfr0 _ (by omega)) (hfr0 _ (by omega))]; exact takv_rng (nrm_tel hJ)
      refine mRun.go (q_callVi (r := f) [mr l, mi d, mi (i : Int)] [mi (i : Int), mr (w + 1)] dX7_learnByDrum_23 co_X7_29 ⟨Nat.le_of_ble_eq_true rfl, Nat.le_of_ble_eq_true rfl⟩ gw_473 gw_474 rfl hf.1 rfl rfl rfl (Nat.le_of_ble_eq_true rfl) htk) ?_
      refine mRun.go (q_aload_n dX7_learnByDrum_26 rfl rfl) ?_
      refine mRun.go (q_getE (x := I f 2) dX7_learnByDrum_27 fo_X7_35 hf.1 rfl hWJ) ?_
      refine mRun.go (q_callSi [mi (tak I f l d (i : Int)), mi (I f 2)] [mi (i : Int), mr (w + 1)] dX7_learnByDrum_30 co_X7_38 ⟨Nat.le_of_ble_eq_true rfl, Nat.le_of_ble_eq_true rfl⟩ gw_507 rfl rfl (Nat.le_of_ble_eq_true rfl) (k_hours htr (by rw [← hWJ]; exact hJ _ _))) ?_
      refine mRun.go (q_callVv (r := w + 1) [mi (i : Int), mi (hrs (tak I f l d (i : Int)) (I f 2))] [] dX7_learnByDrum_33 co_X7_42 ⟨Nat.le_of_ble_eq_true rfl, Nat.le_of_ble_eq_true rfl⟩ gw_311 gw_312 rfl hw.2.1.1 rfl rfl rfl (Nat.le_of_ble_eq_true rfl) (k_putE (J := mup J (w + 1 + 1) i (hrs (tak I f l d (i : Int)) (I f 2))) hw.2.1 (by omega) (by decide) (rput_nat (k := i) rfl (by omega)))) ?_
      refine mRun.go (q_iinc (ls' := [some (mr w), some (mr l), some (mr f), some (mi d), some (mi (g : Int)), some (mi ((i : Int) + 1))]) dX7_learnByDrum_36 rfl (Nat.le_of_ble_eq_true rfl) rfl) ?_
      refine mRun.go (q_goto (tgt := 3) dX7_learnByDrum_39 (by decide)) ?_
      have e1 : ((i : Int) + 1) = ((i + 1 : Nat) : Int) := by omega
      rw [e1]
      refine ih (i + 1) _ (by omega) (by omega) (nrm_mup hJ (by have := @hrs_rng (tak I f l d (i : Int)) (I f 2); omega)) (fun r hr => by rw [mup_nf hr]; exact hfr0 r hr) (fun x hx => ?_)
      by_cases hxi : x = i
      · subst hxi; simp [eC, mup]
      · rw [← he x (by omega)]; simp [eC, mup, hxi]

set_option maxRecDepth 100000 in
theorem k_learnD {σ : List mC} {I : mI} {w l f P g : Nat} {d : Int} (hI : Nrm I) (hw : IsWays σ w) (hl : IsLand σ l) (hf : IsForest σ f) (hP : P ≤ 36) (hPl : I l 3 = (P : Int)) (hgP : g < P) (hd : 0 ≤ d ∧ d < 1000) (hnb : ∀ x, x < P → ∀ s, s < 4 → nbC I l x s = -4 ∨ (0 ≤ nbC I l x s ∧ nbC I l x s < P)) (hwl : w + 5 ≤ l ∨ l + 7 ≤ w) (hwf : w + 5 ≤ f ∨ f + 8 ≤ w)  : mMt mX7_learnByDrum [mr w, mr l, mr f, mi d, mi (g : Int)] (σ, I) (fun v h => v = none ∧ ∃ J, h = (σ, J) ∧ Nrm J ∧ (∀ r, r ≠ w + 1 + 1 → r ≠ w + 3 + 1 → J r = I r) ∧ (∀ x, x < P → eC J w x = hrs (tak I f l d (x : Int)) (I f 2)) ∧ ∀ D, Bell P (nbC I l) (fun p => hrs (tak I f l d ((p : Nat) : Int)) (I f 2)) g D → ∀ x, x < P → aC J w x = D x) := by
  refine mMt.of pl_7 (Nat.le_of_ble_eq_true rfl) ?_
  show mRun mZt mX7_learnByDrum 0 [some (mr w), some (mr l), some (mr f), some (mi d), some (mi (g : Int)), none] [] (σ, I) _
  refine mRun.go (q_iconst dX7_learnByDrum_0) ?_
  refine mRun.go (q_istore (ls' := [some (mr w), some (mr l), some (mr f), some (mi d), some (mi (g : Int)), some (mi 0)]) dX7_learnByDrum_1 (Nat.le_of_ble_eq_true rfl) rfl) ?_
  refine k_learnD_loop hw hl hf hP hPl hgP hd hnb hwl hwf ?_ (P + 1) 0 I (by omega) (by omega) hI (fun _ _ => rfl) (fun x hx => by omega)
  intro J hJ hfr0 he
  have hPJ : J l 3 = (P : Int) := by rw [hfr0 l (by omega)]; exact hPl
  have hnbJ : nbC J l = nbC I l := by funext x s; simp only [nbC]; rw [hfr0 _ (by omega)]
  have hwJ : Wfg P (nbC J l) (eC J w) := ⟨by rw [hnbJ]; exact hnb, fun y hy => by rw [he y hy]; exact hrs_rng⟩
  obtain ⟨D, hD⟩ := bell_ex hwJ (g := g)
  obtain ⟨v, h2, hc, rfl, J2, rfl, hJ2, hfr2, ha⟩ := k_measure (σ := σ) (D := D) hJ hw hl hP hPJ hgP hwJ (by omega) (by omega) hD
  refine mRun.go (q_aload_n dX7_learnByDrum_42 rfl rfl) ?_
  refine mRun.go (q_aload_n dX7_learnByDrum_43 rfl rfl) ?_
  refine mRun.go (q_iload dX7_learnByDrum_44 rfl) ?_
  refine mRun.go (q_callVv (r := w) [mr l, mi (g : Int)] [] dX7_learnByDrum_46 co_X7_46 ⟨Nat.le_of_ble_eq_true rfl, Nat.le_of_ble_eq_true rfl⟩ gw_513 gs_8 rfl hw.1 rfl rfl rfl (Nat.le_of_ble_eq_true rfl) hc) ?_
  refine r_ret dX7_learnByDrum_49 rfl ?_
  refine ⟨rfl, J2, rfl, hJ2, fun r h1 h2 => (hfr2 r h2).trans (hfr0 r h1), fun x hx => ?_, fun D2 hD2 x hx => ?_⟩
  · rw [eC_of hfr2]; exact he x hx
  · rw [ha x hx]
    refine bell_eq hwJ hD ?_ hx
    rw [hnbJ]
    exact bell_congr hnb (fun y hy => (he y hy).symm) hD2

set_option maxRecDepth 100000 in
theorem k_learnT_loop {σ : List mC} {I : mI} {w l P g : Nat} {wet : Int} (hw : IsWays σ w) (hl : IsLand σ l) (hP : P ≤ 36) (hPl : I l 3 = (P : Int)) (hgP : g < P) (hwt : -2147483648 ≤ wet ∧ wet < 2147483648) (hnb : ∀ x, x < P → ∀ s, s < 4 → nbC I l x s = -4 ∨ (0 ≤ nbC I l x s ∧ nbC I l x s < P)) (hwl : w + 5 ≤ l ∨ l + 7 ≤ w) {post : Option mV → mH → Prop} (kk : ∀ (J : mI), Nrm J → (∀ r, r ≠ w + 1 + 1 → J r = I r) → (∀ x, x < P → eC J w x = hrs (rat I (l + 1) 36 (x : Int)) wet) → mRun mZt mX7_learnInTruth 40 [some (mr w), some (mr l), some (mi wet), some (mi (g : Int)), some (mi (P : Int))] [] (σ, J) post) : ∀ (n i : Nat) (J : mI), P - i < n → i ≤ P → Nrm J → (∀ r, r ≠ w + 1 + 1 → J r = I r) → (∀ x, x < i → eC J w x = hrs (rat I (l + 1) 36 (x : Int)) wet) → mRun mZt mX7_learnInTruth 3 [some (mr w), some (mr l), some (mi wet), some (mi (g : Int)), some (mi (i : Int))] [] (σ, J) post := by
  intro n
  induction n with
  | zero => intro i J h; omega
  | succ n ih =>
    intro i J hn hi hJ hfr0 he
    have hPJ : J l 3 = (P : Int) := by rw [hfr0 l (by omega)]; exact hPl
    refine mRun.go (q_iload dX7_learnInTruth_3 rfl) ?_
    refine mRun.go (q_aload_n dX7_learnInTruth_5 rfl rfl) ?_
    refine mRun.go (q_getE (x := (P : Int)) dX7_learnInTruth_6 fo_X7_23 hl.1 rfl hPJ) ?_
    refine r_icmp_ge (tgt := 40) dX7_learnInTruth_9 (by decide) (by omega) (by omega) (fun c9 => ?_) (fun c9 => ?_)
    · have hiP : i = P := by omega
      subst hiP
      exact kk J hJ hfr0 he
    · refine mRun.go (q_aload_n dX7_learnInTruth_12 rfl rfl) ?_
      refine mRun.go (q_getR dX7_learnInTruth_13 fo_X7_14 hw.1 rfl) ?_
      refine mRun.go (q_iload dX7_learnInTruth_16 rfl) ?_
      refine mRun.go (q_aload_n dX7_learnInTruth_18 rfl rfl) ?_
      refine mRun.go (q_getR dX7_learnInTruth_19 fo_X7_50 hl.1 rfl) ?_
      refine mRun.go (q_iload dX7_learnInTruth_22 rfl) ?_
      have htk := @k_at σ J (l + 1) 36 (i : Int) hl.2.1 (by omega) (by omega)
      rw [rat_fr (hfr0 _ (by omega))] at htk
      have htr : -2147483648 ≤ rat I (l + 1) 36 (i : Int) ∧ rat I (l + 1) 36 (i : Int) < 2147483648 := by rw [← rat_fr (J := J) (hfr0 _ (by omega))]; exact nrm_rat hJ
      refine mRun.go (q_callVi (r := l + 1) [mi (i : Int)] [mi (i : Int), mr (w + 1)] dX7_learnInTruth_24 co_X7_53 ⟨Nat.le_of_ble_eq_true rfl, Nat.le_of_ble_eq_true rfl⟩ gw_323 gw_324 rfl hl.2.1.1 rfl rfl rfl (Nat.le_of_ble_eq_true rfl) htk) ?_
      refine mRun.go (q_iload_n dX7_learnInTruth_27 rfl rfl) ?_
      refine mRun.go (q_callSi [mi (rat I (l + 1) 36 (i : Int)), mi wet] [mi (i : Int), mr (w + 1)] dX7_learnInTruth_28 co_X7_38 ⟨Nat.le_of_ble_eq_true rfl, Nat.le_of_ble_eq_true rfl⟩ gw_507 rfl rfl (Nat.le_of_ble_eq_true rfl) (k_hours htr (by omega))) ?_
      refine mRun.go (q_callVv (r := w + 1) [mi (i : Int), mi (hrs (rat I (l + 1) 36 (i : Int)) wet)] [] dX7_learnInTruth_31 co_X7_42 ⟨Nat.le_of_ble_eq_true rfl, Nat.le_of_ble_eq_true rfl⟩ gw_311 gw_312 rfl hw.2.1.1 rfl rfl rfl (Nat.le_of_ble_eq_true rfl) (k_putE (J := mup J (w + 1 + 1) i (hrs (rat I (l + 1) 36 (i : Int)) wet)) hw.2.1 (by omega) (by decide) (rput_nat (k := i) rfl (by omega)))) ?_
      refine mRun.go (q_iinc (ls' := [some (mr w), some (mr l), some (mi wet), some (mi (g : Int)), some (mi ((i : Int) + 1))]) dX7_learnInTruth_34 rfl (Nat.le_of_ble_eq_true rfl) rfl) ?_
      refine mRun.go (q_goto (tgt := 3) dX7_learnInTruth_37 (by decide)) ?_
      have e1 : ((i : Int) + 1) = ((i + 1 : Nat) : Int) := by omega
      rw [e1]
      refine ih (i + 1) _ (by omega) (by omega) (nrm_mup hJ (by have := @hrs_rng (rat I (l + 1) 36 (i : Int)) wet; omega)) (fun r hr => by rw [mup_nf hr]; exact hfr0 r hr) (fun x hx => ?_)
      by_cases hxi : x = i
      · subst hxi; simp [eC, mup]
      · rw [← he x (by omega)]; simp [eC, mup, hxi]

set_option maxRecDepth 100000 in
theorem k_learnT {σ : List mC} {I : mI} {w l P g : Nat} {wet : Int} (hI : Nrm I) (hw : IsWays σ w) (hl : IsLand σ l) (hP : P ≤ 36) (hPl : I l 3 = (P : Int)) (hgP : g < P) (hwt : -2147483648 ≤ wet ∧ wet < 2147483648) (hnb : ∀ x, x < P → ∀ s, s < 4 → nbC I l x s = -4 ∨ (0 ≤ nbC I l x s ∧ nbC I l x s < P)) (hwl : w + 5 ≤ l ∨ l + 7 ≤ w)  : mMt mX7_learnInTruth [mr w, mr l, mi wet, mi (g : Int)] (σ, I) (fun v h => v = none ∧ ∃ J, h = (σ, J) ∧ Nrm J ∧ (∀ r, r ≠ w + 1 + 1 → r ≠ w + 3 + 1 → J r = I r) ∧ (∀ x, x < P → eC J w x = hrs (rat I (l + 1) 36 (x : Int)) wet) ∧ ∀ D, Bell P (nbC I l) (fun p => hrs (rat I (l + 1) 36 ((p : Nat) : Int)) wet) g D → ∀ x, x < P → aC J w x = D x) := by
  refine mMt.of pl_7 (Nat.le_of_ble_eq_true rfl) ?_
  show mRun mZt mX7_learnInTruth 0 [some (mr w), some (mr l), some (mi wet), some (mi (g : Int)), none] [] (σ, I) _
  refine mRun.go (q_iconst dX7_learnInTruth_0) ?_
  refine mRun.go (q_istore (ls' := [some (mr w), some (mr l), some (mi wet), some (mi (g : Int)), some (mi 0)]) dX7_learnInTruth_1 (Nat.le_of_ble_eq_true rfl) rfl) ?_
  refine k_learnT_loop hw hl  hP hPl hgP hwt hnb hwl  ?_ (P + 1) 0 I (by omega) (by omega) hI (fun _ _ => rfl) (fun x hx => by omega)
  intro J hJ hfr0 he
  have hPJ : J l 3 = (P : Int) := by rw [hfr0 l (by omega)]; exact hPl
  have hnbJ : nbC J l = nbC I l := by funext x s; simp only [nbC]; rw [hfr0 _ (by omega)]
  have hwJ : Wfg P (nbC J l) (eC J w) := ⟨by rw [hnbJ]; exact hnb, fun y hy => by rw [he y hy]; exact hrs_rng⟩
  obtain ⟨D, hD⟩ := bell_ex hwJ (g := g)
  obtain ⟨v, h2, hc, rfl, J2, rfl, hJ2, hfr2, ha⟩ := k_measure (σ := σ) (D := D) hJ hw hl hP hPJ hgP hwJ (by omega) (by omega) hD
  refine mRun.go (q_aload_n dX7_learnInTruth_40 rfl rfl) ?_
  refine mRun.go (q_aload_n dX7_learnInTruth_41 rfl rfl) ?_
  refine mRun.go (q_iload_n dX7_learnInTruth_42 rfl rfl) ?_
  refine mRun.go (q_callVv (r := w) [mr l, mi (g : Int)] [] dX7_learnInTruth_43 co_X7_46 ⟨Nat.le_of_ble_eq_true rfl, Nat.le_of_ble_eq_true rfl⟩ gw_513 gs_8 rfl hw.1 rfl rfl rfl (Nat.le_of_ble_eq_true rfl) hc) ?_
  refine r_ret dX7_learnInTruth_46 rfl ?_
  refine ⟨rfl, J2, rfl, hJ2, fun r h1 h2 => (hfr2 r h2).trans (hfr0 r h1), fun x hx => ?_, fun D2 hD2 x hx => ?_⟩
  · rw [eC_of hfr2]; exact he x hx
  · rw [ha x hx]
    refine bell_eq hwJ hD ?_ hx
    rw [hnbJ]
    exact bell_congr hnb (fun y hy => (he y hy).symm) hD2
