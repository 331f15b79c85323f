/-! ===== measuring: the sweeps find the solution ===== -/
/-- the place looked at, in a sweep up or down -/
def ord (P sw i : Nat) : Nat := if sw % 2 = 0 then P - 1 - i else i
theorem ord_lt {P sw i : Nat} (h : i < P) : ord P sw i < P := by unfold ord; split <;> omega
theorem ord_all {P sw x : Nat} (h : x < P) : ∃ j, j < P ∧ ord P sw j = x := by
  unfold ord
  by_cases q : sw % 2 = 0
  · exact ⟨P - 1 - x, by omega, by rw [if_pos q]; omega⟩
  · exact ⟨x, h, by rw [if_neg q]⟩
def Star (P : Nat) (nb : Nat → Nat → Int) (e D a0 : Nat → Int) (x y s : Nat) : Prop := x < P ∧ y < P ∧ s < 4 ∧ nb x s = (y : Int) ∧ D x = e y + D y ∧ a0 y = D y
/-- what holds in a sweep, i places looked at -/
def Insw (P g sw : Nat) (nb : Nat → Nat → Int) (e D a0 : Nat → Int) (i : Nat) (ch : Int) (a : Nat → Int) : Prop :=
  Swp P g D a ∧ (∀ z, z < P → a0 z = D z → a z = D z) ∧ (∀ x y s, Star P nb e D a0 x y s → (∃ j, j < i ∧ ord P sw j = x) → a x = D x) ∧ (ch = 0 ∨ ch = 1) ∧ (ch = 0 → ∀ z, z < P → a z = a0 z)
theorem insw_0 {P g sw : Nat} {nb : Nat → Nat → Int} {e D a : Nat → Int} (h : Swp P g D a) : Insw P g sw nb e D a 0 0 a :=
  ⟨h, fun _ _ q => q, fun x y s _ ⟨j, hj, _⟩ => by omega, Or.inl rfl, fun _ _ _ => rfl⟩
theorem insw_s {P g sw : Nat} {nb : Nat → Nat → Int} {e D a0 a a' : Nat → Int} {i : Nat} {ch ch' : Int} (hw : Wfg P nb e) (hD : Bell P nb e g D) (hgP : g < P) (h : Insw P g sw nb e D a0 i ch a) (hi : i < P) (ha : ∀ z, z < P → a' z = rlx nb e a (ord P sw i) z) (hg : a' g = rlx nb e a (ord P sw i) g) (hc : (ch' = 1) ∨ (ch' = ch ∧ ∀ z, z < P → a' z = a z)) : Insw P g sw nb e D a0 (i + 1) ch' a' := by
  obtain ⟨h1, h2, h3, h4, h5⟩ := h
  have hx := ord_lt (sw := sw) hi
  have k1 := swp_rlx hw hD h1 hx hgP
  refine ⟨⟨fun z hz => by rw [ha z hz]; exact k1.1 z hz, by rw [hg]; exact k1.2⟩, fun z hz q => by rw [ha z hz]; exact swp_keep hw hD h1 hx hgP hz (h2 z hz q), ?_, ?_, ?_⟩
  · intro x y s hs ⟨j, hj, hjx⟩
    rw [ha x hs.1]
    by_cases q : j = i
    · subst q
      subst hjx
      exact swp_tell hw hD h1 hgP hx hs.2.2.1 hs.2.2.2.1 hs.2.2.2.2.1 (h2 y hs.2.1 hs.2.2.2.2.2)
    · exact swp_keep hw hD h1 hx hgP hs.1 (h3 x y s hs ⟨j, by omega, hjx⟩)
  · rcases hc with q | ⟨q, -⟩
    · exact Or.inr q
    · rw [q]; exact h4
  · intro q0
    rcases hc with q | ⟨q, r⟩
    · omega
    · intro z hz
      rw [r z hz]
      exact h5 (by omega) z hz
/-- a whole sweep tells one more place, or all are told -/
theorem insw_end {P g sw : Nat} {nb : Nat → Nat → Int} {e D a0 a : Nat → Int} {ch : Int} (hw : Wfg P nb e) (hD : Bell P nb e g D) (h0 : Swp P g D a0) (h : Insw P g sw nb e D a0 P ch a) : unc D a P ≤ unc D a0 P ∧ (unc D a0 P = 0 ∨ (unc D a P < unc D a0 P ∧ ch ≠ 0)) := by
  obtain ⟨h1, h2, h3, h4, h5⟩ := h
  refine ⟨unc_le P (fun x hx => h2 x hx), ?_⟩
  by_cases hu : ∃ x, x < P ∧ a0 x ≠ D x
  · obtain ⟨x, y, s, hx, hy, hs, hne, hnb, hd, hya⟩ := swp_star hw hD h0 hu
    have ht := h3 x y s ⟨hx, hy, hs, hnb, hd, hya⟩ (ord_all hx)
    refine Or.inr ⟨unc_lt P (fun x hx => h2 x hx) x hx hne ht, fun q => ?_⟩
    have := h5 q x hx
    exact hne (by rw [← this]; exact ht)
  · left
    have hall : ∀ x, x < P → a0 x = D x := fun x hx => Classical.byContradiction fun q => hu ⟨x, hx, q⟩
    have := unc_le (D := D) (a := D) (b := a0) P (fun x hx _ => hall x hx)
    have h9 : ∀ n, unc D D n = 0 := by
      intro n
      induction n with
      | zero => rfl
      | succ n ih => simp [unc, ih]
    rw [h9] at this
    omega
theorem aC_mup {I : mI} {w x : Nat} {v : Int} : aC (mup I (w + 3 + 1) x v) w = fup (aC I w) x v := by
  funext p
  simp [aC, mup, fup]
theorem nbC_of {I J : mI} {w l : Nat} (h : ∀ r, r ≠ w + 3 + 1 → J r = I r) (hd : l + 5 + 1 ≠ w + 3 + 1) : nbC J l = nbC I l := by
  funext x s
  simp only [nbC]
  rw [h _ hd]
theorem eC_of {I J : mI} {w : Nat} (h : ∀ r, r ≠ w + 3 + 1 → J r = I r) : eC J w = eC I w := by
  funext x
  simp only [eC]
  rw [h _ (by omega)]

set_option maxRecDepth 100000 in
set_option maxHeartbeats 1000000 in
theorem k_measure_in {σ : List mC} {I : mI} {w l P g : Nat} {D : Nat → Int} (hw : IsWays σ w) (hl : IsLand σ l) (hP : P ≤ 36) (hPl : I l 3 = (P : Int)) (hgP : g < P) (hwf : Wfg P (nbC I l) (eC I w)) (hd1 : l + 5 + 1 ≠ w + 3 + 1) (hd2 : l ≠ w + 3 + 1) (hD : Bell P (nbC I l) (eC I w) g D) {sw : Nat} (hsw : sw < 36) {a0 : Nat → Int} {post : Option mV → mH → Prop} (kk : ∀ (J : mI) (ch : Int) (o5 o6 o7 : Option mV), Nrm J → (∀ r, r ≠ w + 3 + 1 → J r = I r) → Insw P g sw (nbC I l) (eC I w) D a0 P ch (aC J w) → mRun mZt mX7_measure 117 [some (mr w), some (mr l), some (mi (g : Int)), some (mi ch), some (mi (sw : Int)), o5, o6, o7] [] (σ, J) post) : ∀ (n i : Nat) (J : mI) (ch : Int) (o6 o7 : Option mV), P - i < n → i ≤ P → Nrm J → (∀ r, r ≠ w + 3 + 1 → J r = I r) → Insw P g sw (nbC I l) (eC I w) D a0 i ch (aC J w) → mRun mZt mX7_measure 39 [some (mr w), some (mr l), some (mi (g : Int)), some (mi ch), some (mi (sw : Int)), some (mi (i : Int)), o6, o7] [] (σ, J) post := by
  intro n
  induction n with
  | zero => intro i J ch o6 o7 h; omega
  | succ n ih =>
    intro i J ch o6 o7 hn hi hJ hfr0 hin
    have hnbJ := nbC_of hfr0 hd1
    have heJ := eC_of hfr0
    have hwJ : Wfg P (nbC J l) (eC J w) := by rw [hnbJ, heJ]; exact hwf
    have hPJ : J l 3 = (P : Int) := by rw [hfr0 l hd2]; exact hPl
    have hch := hin.2.2.2.1
    refine mRun.go (q_iload dX7_measure_39 rfl) ?_
    refine mRun.go (q_aload_n dX7_measure_41 rfl rfl) ?_
    refine mRun.go (q_getE (x := (P : Int)) dX7_measure_42 fo_X7_23 hl.1 rfl hPJ) ?_
    refine r_icmp_ge (tgt := 117) dX7_measure_45 (by decide) (by omega) (by omega) (fun c45 => ?_) (fun c45 => ?_)
    · have : i = P := by omega
      subst this
      exact kk J ch _ _ _ hJ hfr0 hin
    · refine mRun.go (q_iload dX7_measure_48 rfl) ?_
      refine mRun.go (q_iconst dX7_measure_50) ?_
      refine mRun.go (q_irem dX7_measure_51 (by omega) (by omega)) ?_
      have j52 : ∀ {post : Option mV → mH → Prop}, mRun mZt mX7_measure 69 [some (mr w), some (mr l), some (mi (g : Int)), some (mi ch), some (mi (sw : Int)), some (mi (i : Int)), o6, o7] [mi ((ord P sw i : Nat) : Int)] (σ, J) post → mRun mZt mX7_measure 52 [some (mr w), some (mr l), some (mi (g : Int)), some (mi ch), some (mi (sw : Int)), some (mi (i : Int)), o6, o7] [mi ((sw : Int) % 2)] (σ, J) post := by
        intro post k
        refine r_if_ne (tgt := 67) dX7_measure_52 (by decide) (by omega) (fun c52 => ?_) (fun c52 => ?_)
        · refine mRun.go (q_iload dX7_measure_67 rfl) ?_
          first | (rw [show ((ord P sw i : Nat) : Int) = (P : Int) - 1 - (i : Int) by unfold ord; rw [if_pos (by omega)]; omega] at k; exact k) | (rw [show ((ord P sw i : Nat) : Int) = (i : Int) by unfold ord; rw [if_neg (by omega)]] at k; exact k)
        · refine mRun.go (q_aload_n dX7_measure_55 rfl rfl) ?_
          refine mRun.go (q_getE (x := (P : Int)) dX7_measure_56 fo_X7_23 hl.1 rfl hPJ) ?_
          refine mRun.go (q_iconst dX7_measure_59) ?_
          refine mRun.go (q_isub dX7_measure_60) ?_
          refine mRun.go (q_iload dX7_measure_61 rfl) ?_
          refine mRun.go (q_isub dX7_measure_63) ?_
          refine mRun.go (q_goto (tgt := 69) dX7_measure_64 (by decide)) ?_
          first | (rw [show ((ord P sw i : Nat) : Int) = (P : Int) - 1 - (i : Int) by unfold ord; rw [if_pos (by omega)]; omega] at k; exact k) | (rw [show ((ord P sw i : Nat) : Int) = (i : Int) by unfold ord; rw [if_neg (by omega)]] at k; exact k)
      refine j52 ?_
      refine mRun.go (q_istore (ls' := [some (mr w), some (mr l), some (mi (g : Int)), some (mi ch), some (mi (sw : Int)), some (mi (i : Int)), some (mi ((ord P sw i : Nat) : Int)), o7]) dX7_measure_69 (Nat.le_of_ble_eq_true rfl) rfl) ?_
      refine mRun.go (q_aload_n dX7_measure_71 rfl rfl) ?_
      refine mRun.go (q_aload_n dX7_measure_72 rfl rfl) ?_
      refine mRun.go (q_aload_n dX7_measure_73 rfl rfl) ?_
      refine mRun.go (q_iload dX7_measure_74 rfl) ?_
      have hxl := ord_lt (sw := sw) (show i < P by omega)
      have haJ : ∀ y, y < P → 0 ≤ aC J w y ∧ aC J w y ≤ 1000000 := fun y hy => by have := hin.1.1 y hy; have := hD.1 y hy; omega
      have hfr := fo_rng hwJ hxl 4 (by omega) (a := aC J w)
      have hf2 := fo_rng2 hwJ haJ hxl (s := 4) (by omega)
      have hfe := fo_eq (nb := nbC J l) (e := eC J w) (a := aC J w) (x := ord P sw i) 4
      refine mRun.go (q_callVi (r := w) [mr l, mi ((ord P sw i : Nat) : Int)] [mr w] dX7_measure_76 co_X7_61 ⟨Nat.le_of_ble_eq_true rfl, Nat.le_of_ble_eq_true rfl⟩ gw_519 gs_9 rfl hw.1 rfl rfl rfl (Nat.le_of_ble_eq_true rfl) (k_firstOf hw hl hJ hP hwJ haJ hxl)) ?_
      have hho := k_hoursOver (σ := σ) hw hJ (show (fo (nbC J l) (eC J w) (aC J w) (ord P sw i) 4).1 = -4 ∨ (0 ≤ (fo (nbC J l) (eC J w) (aC J w) (ord P sw i) 4).1 ∧ (fo (nbC J l) (eC J w) (aC J w) (ord P sw i) 4).1 < 36) by omega)
      rw [← hfe] at hho
      refine mRun.go (q_callVi (r := w) [mi ((fo (nbC J l) (eC J w) (aC J w) (ord P sw i) 4).1)] [] dX7_measure_79 co_X7_65 ⟨Nat.le_of_ble_eq_true rfl, Nat.le_of_ble_eq_true rfl⟩ gw_524 gs_10 rfl hw.1 rfl rfl rfl (Nat.le_of_ble_eq_true rfl) hho) ?_
      refine mRun.go (q_istore (ls' := [some (mr w), some (mr l), some (mi (g : Int)), some (mi ch), some (mi (sw : Int)), some (mi (i : Int)), some (mi ((ord P sw i : Nat) : Int)), some (mi ((fo (nbC J l) (eC J w) (aC J w) (ord P sw i) 4).2))]) dX7_measure_82 (Nat.le_of_ble_eq_true rfl) rfl) ?_
      refine mRun.go (q_iload dX7_measure_84 rfl) ?_
      refine mRun.go (q_aload_n dX7_measure_86 rfl rfl) ?_
      refine mRun.go (q_getR dX7_measure_87 fo_X7_20 hw.1 rfl) ?_
      refine mRun.go (q_iload dX7_measure_90 rfl) ?_
      refine mRun.go (q_callVi (r := w + 3) [mi ((ord P sw i : Nat) : Int)] [mi ((fo (nbC J l) (eC J w) (aC J w) (ord P sw i) 4).2)] dX7_measure_92 co_X7_53 ⟨Nat.le_of_ble_eq_true rfl, Nat.le_of_ble_eq_true rfl⟩ gw_323 gw_324 rfl hw.2.2.1 rfl rfl rfl (Nat.le_of_ble_eq_true rfl) (k_atE (v := aC J w (ord P sw i)) hw.2.2 (by omega) (by decide) (rat_nat (k := ord P sw i) rfl (by omega)))) ?_
      refine r_icmp_ge (tgt := 111) dX7_measure_95 (by decide) (by omega) (hJ _ _) (fun c95 => ?_) (fun c95 => ?_)
      · refine mRun.go (q_iinc (ls' := [some (mr w), some (mr l), some (mi (g : Int)), some (mi ch), some (mi (sw : Int)), some (mi ((i : Int) + 1)), some (mi ((ord P sw i : Nat) : Int)), some (mi ((fo (nbC J l) (eC J w) (aC J w) (ord P sw i) 4).2))]) dX7_measure_111 rfl (Nat.le_of_ble_eq_true rfl) rfl) ?_
        refine mRun.go (q_goto (tgt := 39) dX7_measure_114 (by decide)) ?_
        have e1 : ((i : Int) + 1) = ((i + 1 : Nat) : Int) := by omega
        rw [e1]
        have hq : rlx (nbC I l) (eC I w) (aC J w) (ord P sw i) = aC J w := by rw [← hnbJ, ← heJ]; unfold rlx; rw [if_neg (by omega)]
        exact ih (i + 1) _ _ _ _ (by omega) (by omega) hJ hfr0 (insw_s (ch' := ch) hwf hD hgP hin (by omega) (fun z hz => by rw [hq]) (by rw [hq]) (Or.inr ⟨rfl, fun _ _ => rfl⟩))
      · refine mRun.go (q_aload_n dX7_measure_98 rfl rfl) ?_
        refine mRun.go (q_getR dX7_measure_99 fo_X7_20 hw.1 rfl) ?_
        refine mRun.go (q_iload dX7_measure_102 rfl) ?_
        refine mRun.go (q_iload dX7_measure_104 rfl) ?_
        refine mRun.go (q_callVv (r := w + 3) [mi ((ord P sw i : Nat) : Int), mi ((fo (nbC J l) (eC J w) (aC J w) (ord P sw i) 4).2)] [] dX7_measure_106 co_X7_42 ⟨Nat.le_of_ble_eq_true rfl, Nat.le_of_ble_eq_true rfl⟩ gw_311 gw_312 rfl hw.2.2.1 rfl rfl rfl (Nat.le_of_ble_eq_true rfl) (k_putE (J := mup J (w + 3 + 1) (ord P sw i) (fo (nbC J l) (eC J w) (aC J w) (ord P sw i) 4).2) hw.2.2 (by omega) (by decide) (rput_nat (k := ord P sw i) rfl (by omega)))) ?_
        refine mRun.go (q_iconst dX7_measure_109) ?_
        refine mRun.go (q_istore_n (ls' := [some (mr w), some (mr l), some (mi (g : Int)), some (mi 1), some (mi (sw : Int)), some (mi (i : Int)), some (mi ((ord P sw i : Nat) : Int)), some (mi ((fo (nbC J l) (eC J w) (aC J w) (ord P sw i) 4).2))]) dX7_measure_110 rfl (Nat.le_of_ble_eq_true rfl) rfl) ?_
        refine mRun.go (q_iinc (ls' := [some (mr w), some (mr l), some (mi (g : Int)), some (mi 1), some (mi (sw : Int)), some (mi ((i : Int) + 1)), some (mi ((ord P sw i : Nat) : Int)), some (mi ((fo (nbC J l) (eC J w) (aC J w) (ord P sw i) 4).2))]) dX7_measure_111 rfl (Nat.le_of_ble_eq_true rfl) rfl) ?_
        refine mRun.go (q_goto (tgt := 39) dX7_measure_114 (by decide)) ?_
        have e1 : ((i : Int) + 1) = ((i + 1 : Nat) : Int) := by omega
        rw [e1]
        refine ih (i + 1) _ _ _ _ (by omega) (by omega) (nrm_mup hJ (by omega)) (fun r hr => ?_) (insw_s (ch' := 1) hwf hD hgP hin (by omega) (fun z hz => ?_) ?_ (Or.inl rfl))
        · rw [← hfr0 r hr]; funext k; simp [mup, hr]
        · rw [aC_mup, ← hnbJ, ← heJ]; unfold rlx; rw [if_pos (by omega)]
        · rw [aC_mup, ← hnbJ, ← heJ]; unfold rlx; rw [if_pos (by omega)]

set_option maxRecDepth 100000 in
set_option maxHeartbeats 1000000 in
theorem k_measure_out {σ : List mC} {I : mI} {w l P g : Nat} {D : Nat → Int} (hw : IsWays σ w) (hl : IsLand σ l) (hP : P ≤ 36) (hPl : I l 3 = (P : Int)) (hgP : g < P) (hwf : Wfg P (nbC I l) (eC I w)) (hd1 : l + 5 + 1 ≠ w + 3 + 1) (hd2 : l ≠ w + 3 + 1) (hD : Bell P (nbC I l) (eC I w) g D) : ∀ (n sw : Nat) (J : mI) (ch : Int) (o5 o6 o7 : Option mV), 36 - sw < n → sw ≤ 36 → Nrm J → (∀ r, r ≠ w + 3 + 1 → J r = I r) → Swp P g D (aC J w) → (ch = 0 ∨ ch = 1) → (unc D (aC J w) P = 0 ∨ unc D (aC J w) P + sw ≤ 36) → (ch = 0 → unc D (aC J w) P = 0) → mRun mZt mX7_measure 23 [some (mr w), some (mr l), some (mi (g : Int)), some (mi ch), some (mi (sw : Int)), o5, o6, o7] [] (σ, J) (fun v h => v = none ∧ ∃ J, h = (σ, J) ∧ Nrm J ∧ (∀ r, r ≠ w + 3 + 1 → J r = I r) ∧ ∀ x, x < P → aC J w x = D x) := by
  intro n
  induction n with
  | zero => intro sw J ch o5 o6 o7 h; omega
  | succ n ih =>
    intro sw J ch o5 o6 o7 hn hsw hJ hfr0 hsp hch hu hc0
    refine mRun.go (q_iload dX7_measure_23 rfl) ?_
    refine mRun.go (q_bipush dX7_measure_25 (by decide)) ?_
    refine r_icmp_ge (tgt := 123) dX7_measure_27 (by decide) (by omega) (by omega) (fun c27 => ?_) (fun c27 => ?_)
    · refine r_ret dX7_measure_123 rfl ?_
      exact ⟨rfl, J, rfl, hJ, hfr0, unc_0 P (by omega)⟩
    · refine mRun.go (q_iload_n dX7_measure_30 rfl rfl) ?_
      refine r_if_eq (tgt := 123) dX7_measure_31 (by decide) (by omega) (fun c31 => ?_) (fun c31 => ?_)
      · refine r_ret dX7_measure_123 rfl ?_
        exact ⟨rfl, J, rfl, hJ, hfr0, unc_0 P (by omega)⟩
      · refine mRun.go (q_iconst dX7_measure_34) ?_
        refine mRun.go (q_istore_n (ls' := [some (mr w), some (mr l), some (mi (g : Int)), some (mi 0), some (mi (sw : Int)), o5, o6, o7]) dX7_measure_35 rfl (Nat.le_of_ble_eq_true rfl) rfl) ?_
        refine mRun.go (q_iconst dX7_measure_36) ?_
        refine mRun.go (q_istore (ls' := [some (mr w), some (mr l), some (mi (g : Int)), some (mi 0), some (mi (sw : Int)), some (mi 0), o6, o7]) dX7_measure_37 (Nat.le_of_ble_eq_true rfl) rfl) ?_
        refine k_measure_in hw hl hP hPl hgP hwf hd1 hd2 hD (sw := sw) (by omega) (a0 := aC J w) ?_ (P + 1) 0 J 0 _ _ (by omega) (by omega) hJ hfr0 (insw_0 hsp)
        intro J2 ch2 o5 o6 o7 hJ2 hfr2 hin2
        have hend := insw_end hwf hD hsp hin2
        have hch2 := hin2.2.2.2.1
        refine mRun.go (q_iinc (ls' := [some (mr w), some (mr l), some (mi (g : Int)), some (mi ch2), some (mi ((sw : Int) + 1)), o5, o6, o7]) dX7_measure_117 rfl (Nat.le_of_ble_eq_true rfl) rfl) ?_
        refine mRun.go (q_goto (tgt := 23) dX7_measure_120 (by decide)) ?_
        have e1 : ((sw : Int) + 1) = ((sw + 1 : Nat) : Int) := by omega
        rw [e1]
        exact ih (sw + 1) J2 ch2 _ _ _ (by omega) (by omega) hJ2 hfr2 hin2.1 hch2 (by omega) (by omega)

set_option maxRecDepth 100000 in
theorem k_measure {σ : List mC} {I : mI} {w l P g : Nat} {D : Nat → Int} (hI : Nrm I) (hw : IsWays σ w) (hl : IsLand σ l) (hP : P ≤ 36) (hPl : I l 3 = (P : Int)) (hgP : g < P) (hwf : Wfg P (nbC I l) (eC I w)) (hd1 : l + 5 + 1 ≠ w + 3 + 1) (hd2 : l ≠ w + 3 + 1) (hD : Bell P (nbC I l) (eC I w) g D)  : mMt mX7_measure [mr w, mr l, mi (g : Int)] (σ, I) (fun v h => v = none ∧ ∃ J, h = (σ, J) ∧ Nrm J ∧ (∀ r, r ≠ w + 3 + 1 → J r = I r) ∧ ∀ x, x < P → aC J w x = D x) := by
  refine mMt.of pl_7 (Nat.le_of_ble_eq_true rfl) ?_
  show mRun mZt mX7_measure 0 [some (mr w), some (mr l), some (mi (g : Int)), none, none, none, none, none] [] (σ, I) _
  refine mRun.go (q_aload_n dX7_measure_0 rfl rfl) ?_
  refine mRun.go (q_getR dX7_measure_1 fo_X7_20 hw.1 rfl) ?_
  refine mRun.go (q_ldc (a := 1000000) dX7_measure_4 gw_515) ?_
  refine mRun.go (q_callVv (r := w + 3) [mi 1000000] [] dX7_measure_6 co_X7_58 ⟨Nat.le_of_ble_eq_true rfl, Nat.le_of_ble_eq_true rfl⟩ gw_289 gw_290 rfl hw.2.2.1 rfl rfl rfl (Nat.le_of_ble_eq_true rfl) (k_fill hw.2.2 (by decide))) ?_
  refine mRun.go (q_aload_n dX7_measure_9 rfl rfl) ?_
  refine mRun.go (q_getR dX7_measure_10 fo_X7_20 hw.1 rfl) ?_
  refine mRun.go (q_iload_n dX7_measure_13 rfl rfl) ?_
  refine mRun.go (q_iconst dX7_measure_14) ?_
  refine mRun.go (q_callVv (r := w + 3) [mi (g : Int), mi 0] [] dX7_measure_15 co_X7_42 ⟨Nat.le_of_ble_eq_true rfl, Nat.le_of_ble_eq_true rfl⟩ gw_311 gw_312 rfl hw.2.2.1 rfl rfl rfl (Nat.le_of_ble_eq_true rfl) (k_putE (J := mup (rfil I (w + 3) 36 1000000) (w + 3 + 1) g 0) hw.2.2 (by omega) (by decide) (rput_nat (k := g) rfl (by omega)))) ?_
  refine mRun.go (q_iconst dX7_measure_18) ?_
  refine mRun.go (q_istore_n (ls' := [some (mr w), some (mr l), some (mi (g : Int)), some (mi 1), none, none, none, none]) dX7_measure_19 rfl (Nat.le_of_ble_eq_true rfl) rfl) ?_
  refine mRun.go (q_iconst dX7_measure_20) ?_
  refine mRun.go (q_istore (ls' := [some (mr w), some (mr l), some (mi (g : Int)), some (mi 1), some (mi 0), none, none, none]) dX7_measure_21 (Nat.le_of_ble_eq_true rfl) rfl) ?_
  have hn0 : Nrm (mup (rfil I (w + 3) 36 1000000) (w + 3 + 1) g 0) := nrm_mup (nrm_rfil hI (by decide)) (by decide)
  have hfr0 : ∀ r, r ≠ w + 3 + 1 → mup (rfil I (w + 3) 36 1000000) (w + 3 + 1) g 0 r = I r := fun r hr => by funext k; simp [mup, rfil, hr]
  have hsp : Swp P g D (aC (mup (rfil I (w + 3) 36 1000000) (w + 3 + 1) g 0) w) := by
    refine ⟨fun x hx => ?_, by simp [aC, mup]⟩
    have hdx := hD.1 x hx
    have hdg := hD.2.1
    have e : aC (mup (rfil I (w + 3) 36 1000000) (w + 3 + 1) g 0) w x = if x = g then 0 else 1000000 := by
      have h36 : x < 36 := by omega
      simp [aC, mup, rfil, h36]
    rw [e]
    split
    · next q => subst q; omega
    · omega
  have hu := unc_n (D := D) (a := aC (mup (rfil I (w + 3) 36 1000000) (w + 3 + 1) g 0) w) P
  exact k_measure_out hw hl hP hPl hgP hwf hd1 hd2 hD 37 0 _ 1 _ _ _ (by omega) (by omega) hn0 hfr0 hsp (Or.inr rfl) (by omega) (by omega)
