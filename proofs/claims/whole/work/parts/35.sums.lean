/-! ===== DrumMaps: sums, bits, divisors, laying ===== -/
theorem tl_rng {I : mI} {f : Nat} {L : Ld} {F : Fs} {d x : Int} (hI : Nrm I) (hF : FRC I f L F) (hL : LdOk L) (hd : 0 ≤ d ∧ d < lD L) (hx : 0 ≤ x ∧ x < lP L) : -2147483648 ≤ fT F (36 * d + x) ∧ fT F (36 * d + x) < 2147483648 := by
  rw [← hF.2.2.1 d x hd.1 hd.2 hx.1 hx.2]
  exact nrm_tel hI
theorem k_tellsF {σ : List mC} {I : mI} {f : Nat} {L : Ld} {F : Fs} {d x : Int} (hI : Nrm I) (hf : IsForest σ f) (hD : IsDM σ) (hL : LdOk L) (hLR : LRC I L) (hF : FRC I f L F) (hd : 0 ≤ d ∧ d < lD L) (hx : 0 ≤ x ∧ x < lP L) : mCt mX0_tells [mr f, mr 21, mi d, mi x] (σ, I) (some (mi (fT F (36 * d + x)))) (σ, I) := by
  have h1 := hL.2.2.1
  have h2 := lp_rng hL
  have h := @k_tells σ I f 21 d x hf (dm_l hD) hI (by omega) (by omega)
  rw [hF.2.2.1 d x hd.1 hd.2 hx.1 hx.2] at h
  exact h
theorem k_takesF {σ : List mC} {I : mI} {f : Nat} {L : Ld} {F : Fs} {d x : Int} (hI : Nrm I) (hf : IsForest σ f) (hD : IsDM σ) (hL : LdOk L) (hLR : LRC I L) (hF : FRC I f L F) (hd : 0 ≤ d ∧ d < lD L) (hx : 0 ≤ x ∧ x < lP L) : mCt mX0_takes [mr f, mr 21, mi d, mi x] (σ, I) (some (mi (takv (lK L d) (fT F (36 * d + x))))) (σ, I) := by
  have h1 := hL.2.2.1
  have h2 := lp_rng hL
  have h := @k_takes σ I f 21 d x hf (dm_l hD) hI (by omega) (by omega)
  rw [frc_tak hF hLR hL hd hx] at h
  exact h
theorem allB_n {p : Nat → Bool} {d : Nat} (h : (if allB p d = true then (1 : Int) else 0) = 0) : (if allB p (d + 1) = true then (1 : Int) else 0) = 0 := by
  rw [if_neg]
  intro q
  simp only [allB, Bool.and_eq_true] at q
  rw [if_pos q.1] at h
  omega
theorem allB_m {p : Nat → Bool} {d : Nat} (h : p d = false) : (if allB p (d + 1) = true then (1 : Int) else 0) = 0 := by
  rw [if_neg]
  intro q
  simp only [allB, Bool.and_eq_true] at q
  rw [h] at q
  exact absurd q.2 (by decide)
theorem ite01 {c : Prop} [Decidable c] (h : ¬ (if c then (1 : Int) else 0) = 0) : c := Classical.byContradiction fun q => h (if_neg q)
theorem allB_y {p : Nat → Bool} {d : Nat} (h : ¬ (if allB p d = true then (1 : Int) else 0) = 0) (hp : p d = true) : (if allB p (d + 1) = true then (1 : Int) else 0) = 1 := by
  rw [if_pos]
  simp only [allB, Bool.and_eq_true]
  exact ⟨ite01 h, hp⟩

set_option maxRecDepth 100000 in
theorem k_sure_in {σ : List mC} {I : mI} {L : Ld} (hI : Nrm I) (hD : IsDM σ) (hL : LdOk L) (hLR : LRC I L) {F : Fs} (hF : FRC I 28 L F) (hwF : 0 ≤ fW F ∧ fW F ≤ 3) {x : Nat} (hx : (x : Int) < lP L) {post : Option mV → mH → Prop} (kk : mRun mZt mX8_sure 76 [some (mr 0), some (mi (cntB (rightAt L F) x)), some (mi (x : Int)), some (mi (if rightAt L F x = true then 1 else 0)), some (mi (((lD L).toNat : Nat) : Int))] [] (σ, I) post) : ∀ (n d : Nat), (lD L).toNat - d < n → d ≤ (lD L).toNat → mRun mZt mX8_sure 20 [some (mr 0), some (mi (cntB (rightAt L F) x)), some (mi (x : Int)), some (mi (if allB (fun d => decide (fT F (36 * ((d : Nat) : Int) + (x : Int)) = lG L (x : Int))) d = true then 1 else 0)), some (mi (d : Int))] [] (σ, I) post := by
  intro n
  induction n with
  | zero => intro d h; omega
  | succ n ih =>
    intro d hn hd0
    have hnt := hL.2.2.2.1
    have hdr := hL.2.2.1
    have hpr := lp_rng hL
    have hcr := cntB_rng (rightAt L F) x
    refine mRun.go (q_iload dX8_sure_20 rfl) ?_
    refine mRun.go (q_aload_n dX8_sure_22 rfl rfl) ?_
    refine mRun.go (q_getR dX8_sure_23 fo_X8_26 hD.1 rfl) ?_
    refine mRun.go (q_getE (x := lD L) dX8_sure_26 fo_X8_225 (dm_l hD).1 rfl hLR.2.2.1) ?_
    refine r_icmp_ge (tgt := 76) dX8_sure_29 (by decide) (by omega) (by omega) (fun c29 => ?_) (fun c29 => ?_)
    · have hde : d = (lD L).toNat := by omega
      subst hde
      exact kk
    · refine mRun.go (q_iload_n dX8_sure_32 rfl rfl) ?_
      have j33 : ∀ {post : Option mV → mH → Prop}, mRun mZt mX8_sure 69 [some (mr 0), some (mi (cntB (rightAt L F) x)), some (mi (x : Int)), some (mi (if allB (fun d => decide (fT F (36 * ((d : Nat) : Int) + (x : Int)) = lG L (x : Int))) d = true then 1 else 0)), some (mi (d : Int))] [mi (if allB (fun d => decide (fT F (36 * ((d : Nat) : Int) + (x : Int)) = lG L (x : Int))) (d + 1) = true then 1 else 0)] (σ, I) post → mRun mZt mX8_sure 33 [some (mr 0), some (mi (cntB (rightAt L F) x)), some (mi (x : Int)), some (mi (if allB (fun d => decide (fT F (36 * ((d : Nat) : Int) + (x : Int)) = lG L (x : Int))) d = true then 1 else 0)), some (mi (d : Int))] [mi (if allB (fun d => decide (fT F (36 * ((d : Nat) : Int) + (x : Int)) = lG L (x : Int))) d = true then 1 else 0)] (σ, I) post := by
        intro post k
        refine r_if_eq (tgt := 68) dX8_sure_33 (by decide) (by split <;> omega) (fun c33 => ?_) (fun c33 => ?_)
        · refine mRun.go (q_iconst dX8_sure_68) ?_
          first | (rw [allB_n c33] at k; exact k) | (rw [allB_y c33 (decide_eq_true (Classical.not_not.mp c61))] at k; exact k) | (rw [allB_m (decide_eq_false c61)] at k; exact k)
        · refine mRun.go (q_aload_n dX8_sure_36 rfl rfl) ?_
          refine mRun.go (q_getR dX8_sure_37 fo_X8_33 hD.1 rfl) ?_
          refine mRun.go (q_aload_n dX8_sure_40 rfl rfl) ?_
          refine mRun.go (q_getR dX8_sure_41 fo_X8_26 hD.1 rfl) ?_
          refine mRun.go (q_iload dX8_sure_44 rfl) ?_
          refine mRun.go (q_iload_n dX8_sure_46 rfl rfl) ?_
          refine mRun.go (q_callVi (r := 28) [mr 21, mi (d : Int), mi (x : Int)] [] dX8_sure_47 co_X8_129 ⟨Nat.le_of_ble_eq_true rfl, Nat.le_of_ble_eq_true rfl⟩ gw_468 gw_469 rfl (dm_n hD).1 rfl rfl rfl (Nat.le_of_ble_eq_true rfl) (k_tellsF hI (dm_n hD) hD hL hLR hF (by omega) (by omega))) ?_
          refine mRun.go (q_aload_n dX8_sure_50 rfl rfl) ?_
          refine mRun.go (q_getR dX8_sure_51 fo_X8_26 hD.1 rfl) ?_
          refine mRun.go (q_getR dX8_sure_54 fo_X8_119 (dm_l hD).1 rfl) ?_
          refine mRun.go (q_iload_n dX8_sure_57 rfl rfl) ?_
          refine mRun.go (q_callVi (r := 21 + 1) [mi (x : Int)] [mi (fT F (36 * (d : Int) + (x : Int)))] dX8_sure_58 co_X8_122 ⟨Nat.le_of_ble_eq_true rfl, Nat.le_of_ble_eq_true rfl⟩ gw_323 gw_324 rfl (dm_l hD).2.1.1 rfl rfl rfl (Nat.le_of_ble_eq_true rfl) (k_atE (dm_l hD).2.1 (by omega) (by decide) (lrc_g hLR hL (by omega)))) ?_
          refine r_icmp_ne (tgt := 68) dX8_sure_61 (by decide) (tl_rng hI hF hL (by omega) (by omega)) (by have := hL.2.2.2.2.1 (x : Int) (by omega) (by omega); omega) (fun c61 => ?_) (fun c61 => ?_)
          · refine mRun.go (q_iconst dX8_sure_68) ?_
            first | (rw [allB_n c33] at k; exact k) | (rw [allB_y c33 (decide_eq_true (Classical.not_not.mp c61))] at k; exact k) | (rw [allB_m (decide_eq_false c61)] at k; exact k)
          · refine mRun.go (q_iconst dX8_sure_64) ?_
            refine mRun.go (q_goto (tgt := 69) dX8_sure_65 (by decide)) ?_
            first | (rw [allB_n c33] at k; exact k) | (rw [allB_y c33 (decide_eq_true (Classical.not_not.mp c61))] at k; exact k) | (rw [allB_m (decide_eq_false c61)] at k; exact k)
      refine j33 ?_
      refine mRun.go (q_istore_n (ls' := [some (mr 0), some (mi (cntB (rightAt L F) x)), some (mi (x : Int)), some (mi (if allB (fun d => decide (fT F (36 * ((d : Nat) : Int) + (x : Int)) = lG L (x : Int))) (d + 1) = true then 1 else 0)), some (mi (d : Int))]) dX8_sure_69 rfl (Nat.le_of_ble_eq_true rfl) rfl) ?_
      refine mRun.go (q_iinc (ls' := [some (mr 0), some (mi (cntB (rightAt L F) x)), some (mi (x : Int)), some (mi (if allB (fun d => decide (fT F (36 * ((d : Nat) : Int) + (x : Int)) = lG L (x : Int))) (d + 1) = true then 1 else 0)), some (mi ((d : Int) + 1))]) dX8_sure_70 rfl (Nat.le_of_ble_eq_true rfl) rfl) ?_
      refine mRun.go (q_goto (tgt := 20) dX8_sure_73 (by decide)) ?_
      have e1 : ((d : Int) + 1) = ((d + 1 : Nat) : Int) := by omega
      rw [e1]
      exact ih (d + 1) (by omega) (by omega)

set_option maxRecDepth 100000 in
theorem k_sure_loop {σ : List mC} {I : mI} {L : Ld} (hI : Nrm I) (hD : IsDM σ) (hL : LdOk L) (hLR : LRC I L) {F : Fs} (hF : FRC I 28 L F) (hwF : 0 ≤ fW F ∧ fW F ≤ 3) : ∀ (n x : Nat) (o3 o4 : Option mV), lQ L - x < n → x ≤ lQ L → mRun mZt mX8_sure 4 [some (mr 0), some (mi (cntB (rightAt L F) x)), some (mi (x : Int)), o3, o4] [] (σ, I) (fun v h => v = some (mi (sureS L F)) ∧ h = (σ, I)) := by
  intro n
  induction n with
  | zero => intro x o3 o4 h; omega
  | succ n ih =>
    intro x o3 o4 hn hx0
    have hpr := lp_rng hL
    have hqe := lq_eq hL
    have hcr := cntB_rng (rightAt L F) x
    refine mRun.go (q_iload_n dX8_sure_4 rfl rfl) ?_
    refine mRun.go (q_aload_n dX8_sure_5 rfl rfl) ?_
    refine mRun.go (q_getR dX8_sure_6 fo_X8_26 hD.1 rfl) ?_
    refine mRun.go (q_getE (x := lP L) dX8_sure_9 fo_X8_113 (dm_l hD).1 rfl hLR.1) ?_
    refine r_icmp_ge (tgt := 94) dX8_sure_12 (by decide) (by omega) (by omega) (fun c12 => ?_) (fun c12 => ?_)
    · refine mRun.go (q_iload_n dX8_sure_94 rfl rfl) ?_
      refine r_iret dX8_sure_95 rfl ?_
      have hxe : x = lQ L := by omega
      subst hxe
      exact ⟨rfl, rfl⟩
    · refine mRun.go (q_iconst dX8_sure_15) ?_
      refine mRun.go (q_istore_n (ls' := [some (mr 0), some (mi (cntB (rightAt L F) x)), some (mi (x : Int)), some (mi 1), o4]) dX8_sure_16 rfl (Nat.le_of_ble_eq_true rfl) rfl) ?_
      refine mRun.go (q_iconst dX8_sure_17) ?_
      refine mRun.go (q_istore (ls' := [some (mr 0), some (mi (cntB (rightAt L F) x)), some (mi (x : Int)), some (mi 1), some (mi 0)]) dX8_sure_18 (Nat.le_of_ble_eq_true rfl) rfl) ?_
      refine k_sure_in hI hD hL hLR hF hwF (by omega) ?_ ((lD L).toNat + 1) 0 (by omega) (by omega)
      refine mRun.go (q_iload_n dX8_sure_76 rfl rfl) ?_
      refine mRun.go (q_iload_n dX8_sure_77 rfl rfl) ?_
      have j78 : ∀ {post : Option mV → mH → Prop}, mRun mZt mX8_sure 86 [some (mr 0), some (mi (cntB (rightAt L F) x)), some (mi (x : Int)), some (mi (if rightAt L F x = true then 1 else 0)), some (mi (((lD L).toNat : Nat) : Int))] [mi (if rightAt L F x = true then 1 else 0), mi (cntB (rightAt L F) x)] (σ, I) post → mRun mZt mX8_sure 78 [some (mr 0), some (mi (cntB (rightAt L F) x)), some (mi (x : Int)), some (mi (if rightAt L F x = true then 1 else 0)), some (mi (((lD L).toNat : Nat) : Int))] [mi (if rightAt L F x = true then 1 else 0), mi (cntB (rightAt L F) x)] (σ, I) post := by
        intro post k
        refine r_if_eq (tgt := 85) dX8_sure_78 (by decide) (by split <;> omega) (fun c78 => ?_) (fun c78 => ?_)
        · refine mRun.go (q_iconst dX8_sure_85) ?_
          first | (rw [if_neg (fun q => by rw [if_pos q] at c78; omega)] at k ⊢; exact k) | (rw [if_pos (ite01 c78)] at k ⊢; exact k)
        · refine mRun.go (q_iconst dX8_sure_81) ?_
          refine mRun.go (q_goto (tgt := 86) dX8_sure_82 (by decide)) ?_
          first | (rw [if_neg (fun q => by rw [if_pos q] at c78; omega)] at k ⊢; exact k) | (rw [if_pos (ite01 c78)] at k ⊢; exact k)
      refine j78 ?_
      refine mRun.go (q_iadd dX8_sure_86) ?_
      refine mRun.go (q_istore_n (ls' := [some (mr 0), some (mi ((cntB (rightAt L F) x) + (if rightAt L F x = true then 1 else 0))), some (mi (x : Int)), some (mi (if rightAt L F x = true then 1 else 0)), some (mi (((lD L).toNat : Nat) : Int))]) dX8_sure_87 rfl (Nat.le_of_ble_eq_true rfl) rfl) ?_
      refine mRun.go (q_iinc (ls' := [some (mr 0), some (mi ((cntB (rightAt L F) x) + (if rightAt L F x = true then 1 else 0))), some (mi ((x : Int) + 1)), some (mi (if rightAt L F x = true then 1 else 0)), some (mi (((lD L).toNat : Nat) : Int))]) dX8_sure_88 rfl (Nat.le_of_ble_eq_true rfl) rfl) ?_
      refine mRun.go (q_goto (tgt := 4) dX8_sure_91 (by decide)) ?_
      have e1 : ((x : Int) + 1) = ((x + 1 : Nat) : Int) := by omega
      rw [e1]
      exact ih (x + 1) _ _ (by omega) (by omega)

set_option maxRecDepth 100000 in
theorem k_sure {σ : List mC} {I : mI} {L : Ld} (hI : Nrm I) (hD : IsDM σ) (hL : LdOk L) (hLR : LRC I L) {F : Fs} (hF : FRC I 28 L F) (hwF : 0 ≤ fW F ∧ fW F ≤ 3)  : mCt mX8_sure [mr 0] (σ, I) (some (mi (sureS L F))) (σ, I) := by
  refine mCt.eq ?_
  refine mMt.of pl_8 (Nat.le_of_ble_eq_true rfl) ?_
  show mRun mZt mX8_sure 0 [some (mr 0), none, none, none, none] [] (σ, I) _
  refine mRun.go (q_iconst dX8_sure_0) ?_
  refine mRun.go (q_istore_n (ls' := [some (mr 0), some (mi 0), none, none, none]) dX8_sure_1 rfl (Nat.le_of_ble_eq_true rfl) rfl) ?_
  refine mRun.go (q_iconst dX8_sure_2) ?_
  refine mRun.go (q_istore_n (ls' := [some (mr 0), some (mi 0), some (mi 0), none, none]) dX8_sure_3 rfl (Nat.le_of_ble_eq_true rfl) rfl) ?_
  exact k_sure_loop hI hD hL hLR hF hwF (lQ L + 1) 0 none none (by omega) (by omega)

set_option maxRecDepth 100000 in
theorem k_told_loop {σ : List mC} {I : mI} {L : Ld} (hI : Nrm I) (hD : IsDM σ) (hL : LdOk L) (hLR : LRC I L) {F : Fs} (hF : FRC I 28 L F) (hwF : 0 ≤ fW F ∧ fW F ≤ 3) {H : Nat × (Nat → Int) × (Nat → Int)} (hH : I 0 8 = (H.1 : Int)) (hHk : ∀ k, k < H.1 → I 121 k = H.2.1 k ∧ I 123 k = H.2.2 k) (hH8 : H.1 ≤ 8) (hHr : ∀ k, k < H.1 → (0 ≤ H.2.1 k ∧ H.2.1 k < lP L) ∧ 0 ≤ H.2.2 k ∧ H.2.2 k ≤ 3) {d : Int} (hd : 0 ≤ d ∧ d < lD L) : ∀ (n k : Nat), H.1 - k < n → k ≤ H.1 → allB (fun k => decide (fT F (36 * d + H.2.1 k) = H.2.2 k)) k = true → mRun mZt mX8_toldAllHeard 2 [some (mr 0), some (mi d), some (mi (k : Int))] [] (σ, I) (fun v h => v = some (mi (if toldB F H d = true then 1 else 0)) ∧ h = (σ, I)) := by
  intro n
  induction n with
  | zero => intro k h; omega
  | succ n ih =>
    intro k hn hk0 hal
    have hdr := hL.2.2.1
    have hpr := lp_rng hL
    refine mRun.go (q_iload_n dX8_toldAllHeard_2 rfl rfl) ?_
    refine mRun.go (q_aload_n dX8_toldAllHeard_3 rfl rfl) ?_
    refine mRun.go (q_getE (x := (H.1 : Int)) dX8_toldAllHeard_4 fo_X8_242 hD.1 rfl hH) ?_
    refine r_icmp_ge (tgt := 49) dX8_toldAllHeard_7 (by decide) (by omega) (by omega) (fun c7 => ?_) (fun c7 => ?_)
    · refine mRun.go (q_iconst dX8_toldAllHeard_49) ?_
      refine r_zret dX8_toldAllHeard_50 rfl (by simp) ?_
      have hke : k = H.1 := by omega
      subst hke
      rw [if_pos (show toldB F H d = true from hal)]
      exact ⟨rfl, rfl⟩
    · refine mRun.go (q_aload_n dX8_toldAllHeard_10 rfl rfl) ?_
      refine mRun.go (q_getR dX8_toldAllHeard_11 fo_X8_33 hD.1 rfl) ?_
      refine mRun.go (q_aload_n dX8_toldAllHeard_14 rfl rfl) ?_
      refine mRun.go (q_getR dX8_toldAllHeard_15 fo_X8_26 hD.1 rfl) ?_
      refine mRun.go (q_iload_n dX8_toldAllHeard_18 rfl rfl) ?_
      refine mRun.go (q_aload_n dX8_toldAllHeard_19 rfl rfl) ?_
      refine mRun.go (q_getR dX8_toldAllHeard_20 fo_X8_52 hD.1 rfl) ?_
      refine mRun.go (q_iload_n dX8_toldAllHeard_23 rfl rfl) ?_
      have hkk := hHr k (by omega)
      refine mRun.go (q_callVi (r := 120) [mi (k : Int)] [mi d, mr 21, mr 28] dX8_toldAllHeard_24 co_X8_122 ⟨Nat.le_of_ble_eq_true rfl, Nat.le_of_ble_eq_true rfl⟩ gw_323 gw_324 rfl (dm_hp hD).1 rfl rfl rfl (Nat.le_of_ble_eq_true rfl) (k_atE (dm_hp hD) (by omega) (by decide) ((rat_nat (k := k) rfl (by omega)).trans (hHk k (by omega)).1))) ?_
      refine mRun.go (q_callVi (r := 28) [mr 21, mi d, mi (H.2.1 k)] [] dX8_toldAllHeard_27 co_X8_129 ⟨Nat.le_of_ble_eq_true rfl, Nat.le_of_ble_eq_true rfl⟩ gw_468 gw_469 rfl (dm_n hD).1 rfl rfl rfl (Nat.le_of_ble_eq_true rfl) (k_tellsF hI (dm_n hD) hD hL hLR hF (by omega) (by omega))) ?_
      refine mRun.go (q_aload_n dX8_toldAllHeard_30 rfl rfl) ?_
      refine mRun.go (q_getR dX8_toldAllHeard_31 fo_X8_56 hD.1 rfl) ?_
      refine mRun.go (q_iload_n dX8_toldAllHeard_34 rfl rfl) ?_
      refine mRun.go (q_callVi (r := 122) [mi (k : Int)] [mi (fT F (36 * d + (H.2.1 k)))] dX8_toldAllHeard_35 co_X8_122 ⟨Nat.le_of_ble_eq_true rfl, Nat.le_of_ble_eq_true rfl⟩ gw_323 gw_324 rfl (dm_ht hD).1 rfl rfl rfl (Nat.le_of_ble_eq_true rfl) (k_atE (dm_ht hD) (by omega) (by decide) ((rat_nat (k := k) rfl (by omega)).trans (hHk k (by omega)).2))) ?_
      refine r_icmp_eq (tgt := 43) dX8_toldAllHeard_38 (by decide) (tl_rng hI hF hL (by omega) (by omega)) (by omega) (fun c38 => ?_) (fun c38 => ?_)
      · refine mRun.go (q_iinc (ls' := [some (mr 0), some (mi d), some (mi ((k : Int) + 1))]) dX8_toldAllHeard_43 rfl (Nat.le_of_ble_eq_true rfl) rfl) ?_
        refine mRun.go (q_goto (tgt := 2) dX8_toldAllHeard_46 (by decide)) ?_
        have e1 : ((k : Int) + 1) = ((k + 1 : Nat) : Int) := by omega
        rw [e1]
        exact ih (k + 1) (by omega) (by omega) (by simp only [allB]; rw [hal, Bool.true_and]; exact decide_eq_true c38)
      · refine mRun.go (q_iconst dX8_toldAllHeard_41) ?_
        refine r_zret dX8_toldAllHeard_42 rfl (by simp) ?_
        rw [if_neg (show ¬ toldB F H d = true from fun q => by rw [show toldB F H d = false from allB_f (k := k) (by omega) (decide_eq_false c38)] at q; exact absurd q (by decide))]
        exact ⟨rfl, rfl⟩

set_option maxRecDepth 100000 in
theorem k_told {σ : List mC} {I : mI} {L : Ld} (hI : Nrm I) (hD : IsDM σ) (hL : LdOk L) (hLR : LRC I L) {F : Fs} (hF : FRC I 28 L F) (hwF : 0 ≤ fW F ∧ fW F ≤ 3) {H : Nat × (Nat → Int) × (Nat → Int)} (hH : I 0 8 = (H.1 : Int)) (hHk : ∀ k, k < H.1 → I 121 k = H.2.1 k ∧ I 123 k = H.2.2 k) (hH8 : H.1 ≤ 8) (hHr : ∀ k, k < H.1 → (0 ≤ H.2.1 k ∧ H.2.1 k < lP L) ∧ 0 ≤ H.2.2 k ∧ H.2.2 k ≤ 3) {d : Int} (hd : 0 ≤ d ∧ d < lD L)  : mCt mX8_toldAllHeard [mr 0, mi d] (σ, I) (some (mi (if toldB F H d = true then 1 else 0))) (σ, I) := by
  refine mCt.eq ?_
  refine mMt.of pl_8 (Nat.le_of_ble_eq_true rfl) ?_
  show mRun mZt mX8_toldAllHeard 0 [some (mr 0), some (mi d), none] [] (σ, I) _
  refine mRun.go (q_iconst dX8_toldAllHeard_0) ?_
  refine mRun.go (q_istore_n (ls' := [some (mr 0), some (mi d), some (mi 0)]) dX8_toldAllHeard_1 rfl (Nat.le_of_ble_eq_true rfl) rfl) ?_
  exact k_told_loop hI hD hL hLR hF hwF hH hHk hH8 hHr hd (H.1 + 1) 0 (by omega) (by omega) rfl

theorem eu_half {a b : Nat} (h : b ≤ a) (hb : 0 < b) : 2 * (a % b) ≤ a := by
  have h1 := Nat.mod_lt a hb
  have h2 := Nat.div_add_mod a b
  have h3 : 1 ≤ a / b := (Nat.one_le_div_iff hb).mpr h
  have h4 : b * 1 ≤ b * (a / b) := Nat.mul_le_mul_left b h3
  omega
theorem eu_next {a b i M : Nat} (h : b ≤ a) (hb : 0 < b) (hm : a * b * 2 ^ i ≤ M) : b * (a % b) * 2 ^ (i + 1) ≤ M := by
  refine Nat.le_trans ?_ hm
  rw [show b * (a % b) * 2 ^ (i + 1) = b * (2 * (a % b)) * 2 ^ i by rw [Nat.pow_succ, Nat.mul_assoc, Nat.mul_assoc, Nat.mul_assoc, Nat.mul_comm (2 ^ i) 2]; congr 1; rw [← Nat.mul_assoc, Nat.mul_comm (a % b) 2, Nat.mul_assoc]]
  exact Nat.mul_le_mul_right _ (by rw [Nat.mul_comm a b]; exact Nat.mul_le_mul_left b (eu_half h hb))
theorem eu_end {a b i : Nat} (h : b ≤ a) (hm : a * b * 2 ^ i ≤ 2 ^ 54) (hi : 100 ≤ i) : b = 0 := by
  refine Classical.byContradiction fun hb => ?_
  have h1 : 1 * 1 ≤ a * b := Nat.mul_le_mul (by omega) (by omega)
  have h2 : 2 ^ 100 ≤ 2 ^ i := Nat.pow_le_pow_right (by decide) hi
  have h3 : 1 * 2 ^ i ≤ a * b * 2 ^ i := Nat.mul_le_mul_right _ (by omega)
  have h4 : (2 : Nat) ^ 54 < 2 ^ 100 := by decide
  omega

theorem k_gcd_loop {h : mH} {x y : Int} {G : Nat} : ∀ (n i a b : Nat) (o5 : Option mV), 101 - i < n → i ≤ 100 → b ≤ a → a ≤ 100000000 → a * b * 2 ^ i ≤ 2 ^ 54 → Nat.gcd a b = G → mRun mZt mX8_greatestDivisor 7 [some (mi x), some (mi y), some (mi (a : Int)), some (mi (b : Int)), some (mi (i : Int)), o5] [] h (fun v h' => v = some (mi (G : Int)) ∧ h' = h) := by
  intro n
  induction n with
  | zero => intro i a b o5 h; omega
  | succ n ih =>
    intro i a b o5 hn hi hba ha hm hg
    refine mRun.go (q_iload dX8_greatestDivisor_7 rfl) ?_
    refine mRun.go (q_bipush dX8_greatestDivisor_9 (by decide)) ?_
    refine r_icmp_ge (tgt := 34) dX8_greatestDivisor_11 (by decide) (by omega) (by omega) (fun c11 => ?_) (fun c11 => ?_)
    · refine mRun.go (q_iload_n dX8_greatestDivisor_34 rfl rfl) ?_
      refine r_iret dX8_greatestDivisor_35 rfl ?_
      have hb0 : b = 0 := by
        by_cases hb : b = 0
        · exact hb
        · exact eu_end hba hm (by omega)
      subst hb0
      rw [Nat.gcd_zero_right] at hg
      subst hg
      exact ⟨rfl, rfl⟩
    · refine mRun.go (q_iload_n dX8_greatestDivisor_14 rfl rfl) ?_
      refine r_if_eq (tgt := 34) dX8_greatestDivisor_15 (by decide) (by omega) (fun c15 => ?_) (fun c15 => ?_)
      · refine mRun.go (q_iload_n dX8_greatestDivisor_34 rfl rfl) ?_
        refine r_iret dX8_greatestDivisor_35 rfl ?_
        have hb0 : b = 0 := by
          by_cases hb : b = 0
          · exact hb
          · exact eu_end hba hm (by omega)
        subst hb0
        rw [Nat.gcd_zero_right] at hg
        subst hg
        exact ⟨rfl, rfl⟩
      · refine mRun.go (q_iload_n dX8_greatestDivisor_18 rfl rfl) ?_
        refine mRun.go (q_iload_n dX8_greatestDivisor_19 rfl rfl) ?_
        refine mRun.go (q_irem dX8_greatestDivisor_20 (by omega) (by omega)) ?_
        refine mRun.go (q_istore (ls' := [some (mi x), some (mi y), some (mi (a : Int)), some (mi (b : Int)), some (mi (i : Int)), some (mi ((a : Int) % (b : Int)))]) dX8_greatestDivisor_21 (Nat.le_of_ble_eq_true rfl) rfl) ?_
        refine mRun.go (q_iload_n dX8_greatestDivisor_23 rfl rfl) ?_
        refine mRun.go (q_istore_n (ls' := [some (mi x), some (mi y), some (mi (b : Int)), some (mi (b : Int)), some (mi (i : Int)), some (mi ((a : Int) % (b : Int)))]) dX8_greatestDivisor_24 rfl (Nat.le_of_ble_eq_true rfl) rfl) ?_
        refine mRun.go (q_iload dX8_greatestDivisor_25 rfl) ?_
        refine mRun.go (q_istore_n (ls' := [some (mi x), some (mi y), some (mi (b : Int)), some (mi ((a : Int) % (b : Int))), some (mi (i : Int)), some (mi ((a : Int) % (b : Int)))]) dX8_greatestDivisor_27 rfl (Nat.le_of_ble_eq_true rfl) rfl) ?_
        refine mRun.go (q_iinc (ls' := [some (mi x), some (mi y), some (mi (b : Int)), some (mi ((a : Int) % (b : Int))), some (mi ((i : Int) + 1)), some (mi ((a : Int) % (b : Int)))]) dX8_greatestDivisor_28 rfl (Nat.le_of_ble_eq_true rfl) rfl) ?_
        refine mRun.go (q_goto (tgt := 7) dX8_greatestDivisor_31 (by decide)) ?_
        have e1 : ((i : Int) + 1) = ((i + 1 : Nat) : Int) := by omega
        have e2 : (a : Int) % (b : Int) = ((a % b : Nat) : Int) := by omega
        rw [e1, e2]
        have hml := Nat.mod_lt a (show 0 < b by omega)
        exact ih (i + 1) b (a % b) _ (by omega) (by omega) (by omega) (by omega) (eu_next hba (by omega) hm) (by rw [← hg, Nat.gcd_comm a b, Nat.gcd_rec b a]; exact Nat.gcd_comm _ _)

set_option maxRecDepth 100000 in
theorem k_gcd {h : mH} {a b : Nat} (hba : b ≤ a) (ha : a ≤ 100000000) : mCt mX8_greatestDivisor [mi (a : Int), mi (b : Int)] h (some (mi ((Nat.gcd a b : Nat) : Int))) h := by
  refine mCt.eq ?_
  refine mMt.of pl_8 (Nat.le_of_ble_eq_true rfl) ?_
  show mRun mZt mX8_greatestDivisor 0 [some (mi (a : Int)), some (mi (b : Int)), none, none, none, none] [] h _
  refine mRun.go (q_iload_n dX8_greatestDivisor_0 rfl rfl) ?_
  refine mRun.go (q_istore_n (ls' := [some (mi (a : Int)), some (mi (b : Int)), some (mi (a : Int)), none, none, none]) dX8_greatestDivisor_1 rfl (Nat.le_of_ble_eq_true rfl) rfl) ?_
  refine mRun.go (q_iload_n dX8_greatestDivisor_2 rfl rfl) ?_
  refine mRun.go (q_istore_n (ls' := [some (mi (a : Int)), some (mi (b : Int)), some (mi (a : Int)), some (mi (b : Int)), none, none]) dX8_greatestDivisor_3 rfl (Nat.le_of_ble_eq_true rfl) rfl) ?_
  refine mRun.go (q_iconst dX8_greatestDivisor_4) ?_
  refine mRun.go (q_istore (ls' := [some (mi (a : Int)), some (mi (b : Int)), some (mi (a : Int)), some (mi (b : Int)), some (mi 0), none]) dX8_greatestDivisor_5 (Nat.le_of_ble_eq_true rfl) rfl) ?_
  refine k_gcd_loop 102 0 a b none (by omega) (by omega) hba ha ?_ rfl
  have h2 := Nat.mul_le_mul ha (Nat.le_trans hba ha)
  omega

theorem rnT_pos {f g : Tv → Tv} {x m : Int} {t : Tv} (hx : 0 ≤ x ∧ x ≤ 10) : ∀ n : Nat, 0 ≤ (rnT f g x m t n).1 ∧ (rnT f g x m t n).1 ≤ 10 ^ n := by
  intro n
  induction n with
  | zero => exact ⟨by simp [rnT], by simp [rnT]⟩
  | succ n ih =>
    simp only [rnT]
    have e : (10 : Int) ^ (n + 1) = 10 ^ n * 10 := Int.pow_succ 10 n
    split
    · exact ⟨Int.mul_nonneg ih.1 hx.1, by rw [e]; exact Int.mul_le_mul ih.2 hx.2 hx.1 (by have := ih; omega)⟩
    · exact ⟨Int.mul_nonneg ih.1 (by omega), by rw [e]; exact Int.mul_le_mul ih.2 (by omega) (by omega) (by have := ih; omega)⟩
theorem rnT_zero {f g : Tv → Tv} {x m : Int} {t : Tv} {k : Nat} (h : (rnT f g x m t k).1 = 0) : ∀ n : Nat, k ≤ n → (rnT f g x m t n).1 = 0 := by
  intro n
  induction n with
  | zero => intro hk; rw [show k = 0 by omega] at h; exact h
  | succ n ih =>
    intro hk
    by_cases q : k = n + 1
    · rw [← q]; exact h
    · simp only [rnT]
      split
      · simp only; rw [ih (by omega), Int.zero_mul]
      · simp only; rw [ih (by omega), Int.zero_mul]
theorem p10 {k : Nat} (h : k ≤ 8) : (10 : Int) ^ k ≤ 100000000 := by
  rcases (show k = 0 ∨ k = 1 ∨ k = 2 ∨ k = 3 ∨ k = 4 ∨ k = 5 ∨ k = 6 ∨ k = 7 ∨ k = 8 by omega) with q | q | q | q | q | q | q | q | q <;> subst q <;> decide
theorem mand_rng (x y : Int) : -2147483648 ≤ mand x y ∧ mand x y < 2147483648 := by
  unfold mand
  exact ⟨Int32.le_toInt _, Int32.toInt_lt _⟩

set_option maxRecDepth 100000 in
theorem k_weight_loop {σ : List mC} {I : mI} {L : Ld} (hI : Nrm I) (hD : IsDM σ) (hL : LdOk L) (hLR : LRC I L) {F : Fs} (hF : FRC I 28 L F) (hwF : 0 ≤ fW F ∧ fW F ≤ 3) {r n : Nat} {d g x m : Int} {t0 : Tv} (hn8 : n ≤ 8) (hx : 0 ≤ x ∧ x ≤ 10) (hm : 0 ≤ m ∧ m < 1000) (hky0 : Knows I 134 (lQ L) (nbL L) (ent L (fT F) (fW F) d) g.toNat) (hkz0 : Knows I 139 (lQ L) (nbL L) (ent L (fT F) 3 d) g.toNat) (hok0 : TvOk (lP L) (lD L) t0) : ∀ (N k : Nat) (K : mI), n - k < N → k ≤ n → Nrm K → (∀ r, r ≠ 132 → K r = I r) → tget K 132 = (rnT (sfc L (fT F) (fW F) d g) (sfc L (fT F) 3 d g) x m t0 k).2 → mRun mZt mX8_weightIfThere 14 [some (mr 0), some (mr r), some (mi m), some (mi (n : Int)), some (mi x), some (mi (rnT (sfc L (fT F) (fW F) d g) (sfc L (fT F) 3 d g) x m t0 k).1), some (mi (k : Int))] [] (σ, K) (fun v h => v = some (mi (wgS (sfc L (fT F) (fW F) d g) (sfc L (fT F) 3 d g) x m t0 n)) ∧ ∃ K, h = (σ, K) ∧ Nrm K ∧ (∀ r, r ≠ 132 → K r = I r)) := by
  intro N
  induction N with
  | zero => intro k K h; omega
  | succ N ih =>
    intro k K hn hk0 hK hfr ht
    have hdr := hL.2.2.1
    have hpr := lp_rng hL
    have hrp := rnT_pos (f := (sfc L (fT F) (fW F) d g)) (g := (sfc L (fT F) 3 d g)) (m := m) (t := t0) hx k
    have hp10 := p10 (show k ≤ 8 by omega)
    have hok : TvOk (lP L) (lD L) (rnT (sfc L (fT F) (fW F) d g) (sfc L (fT F) 3 d g) x m t0 k).2 := (rnT_nrm (f' := sfx L (fT F) (fW F) d g) (g' := sfx L (fT F) 3 d g) (fun t ht => sfc_nrm ht) (fun t ht => sfc_nrm ht) (fun t ht => sfc_ok hL ht) (fun t ht => sfc_ok hL ht) hok0 k).1
    have hky := knows_fr hky0 (hfr (134 + 1 + 1) (by decide)) (hfr (134 + 3 + 1) (by decide))
    have hkz := knows_fr hkz0 (hfr (139 + 1 + 1) (by decide)) (hfr (139 + 3 + 1) (by decide))
    have hLRK : LRC K L := hLR.fr (fun r a b => hfr r (by omega))
    refine mRun.go (q_iload dX8_weightIfThere_14 rfl) ?_
    refine mRun.go (q_iload_n dX8_weightIfThere_16 rfl rfl) ?_
    refine r_icmp_ge (tgt := 93) dX8_weightIfThere_17 (by decide) (by omega) (by omega) (fun c17 => ?_) (fun c17 => ?_)
    · refine mRun.go (q_aload_n dX8_weightIfThere_93 rfl rfl) ?_
      refine mRun.go (q_getR dX8_weightIfThere_94 fo_X8_65 hD.1 rfl) ?_
      refine mRun.go (q_getE (x := (rnT (sfc L (fT F) (fW F) d g) (sfc L (fT F) 3 d g) x m t0 k).2.2.2.2.1) dX8_weightIfThere_97 fo_X8_162 (dm_w hD) rfl (by rw [← ht]; rfl)) ?_
      refine mRun.go (q_iconst dX8_weightIfThere_100) ?_
      refine r_icmp_ne (tgt := 109) dX8_weightIfThere_101 (by decide) (by have := hok.2.2.2.1; omega) (by omega) (fun c101 => ?_) (fun c101 => ?_)
      · refine mRun.go (q_iconst dX8_weightIfThere_109) ?_
        refine r_iret dX8_weightIfThere_110 rfl ?_
        have hz : wgS (sfc L (fT F) (fW F) d g) (sfc L (fT F) 3 d g) x m t0 n = 0 := by
          by_cases hke : k = n
          · subst hke
            unfold wgS
            rw [if_neg c101]
          · have hw0 : (rnT (sfc L (fT F) (fW F) d g) (sfc L (fT F) 3 d g) x m t0 k).1 = 0 := by omega
            unfold wgS
            rw [rnT_zero hw0 n (by omega)]
            split <;> rfl
        rw [hz]
        exact ⟨rfl, K, rfl, hK, hfr⟩
      · refine mRun.go (q_iload dX8_weightIfThere_104 rfl) ?_
        refine mRun.go (q_goto (tgt := 110) dX8_weightIfThere_106 (by decide)) ?_
        refine r_iret dX8_weightIfThere_110 rfl ?_
        have hz : wgS (sfc L (fT F) (fW F) d g) (sfc L (fT F) 3 d g) x m t0 n = (rnT (sfc L (fT F) (fW F) d g) (sfc L (fT F) 3 d g) x m t0 k).1 := by
          by_cases hke : k = n
          · subst hke
            unfold wgS
            rw [if_pos (Classical.not_not.mp c101)]
          · have hw0 : (rnT (sfc L (fT F) (fW F) d g) (sfc L (fT F) 3 d g) x m t0 k).1 = 0 := by omega
            unfold wgS
            rw [rnT_zero hw0 n (by omega)]
            rw [hw0]
            split <;> rfl
        rw [hz]
        exact ⟨rfl, K, rfl, hK, hfr⟩
    · refine mRun.go (q_iload dX8_weightIfThere_20 rfl) ?_
      refine r_if_le (tgt := 93) dX8_weightIfThere_22 (by decide) (by omega) (fun c22 => ?_) (fun c22 => ?_)
      · refine mRun.go (q_aload_n dX8_weightIfThere_93 rfl rfl) ?_
        refine mRun.go (q_getR dX8_weightIfThere_94 fo_X8_65 hD.1 rfl) ?_
        refine mRun.go (q_getE (x := (rnT (sfc L (fT F) (fW F) d g) (sfc L (fT F) 3 d g) x m t0 k).2.2.2.2.1) dX8_weightIfThere_97 fo_X8_162 (dm_w hD) rfl (by rw [← ht]; rfl)) ?_
        refine mRun.go (q_iconst dX8_weightIfThere_100) ?_
        refine r_icmp_ne (tgt := 109) dX8_weightIfThere_101 (by decide) (by have := hok.2.2.2.1; omega) (by omega) (fun c101 => ?_) (fun c101 => ?_)
        · refine mRun.go (q_iconst dX8_weightIfThere_109) ?_
          refine r_iret dX8_weightIfThere_110 rfl ?_
          have hz : wgS (sfc L (fT F) (fW F) d g) (sfc L (fT F) 3 d g) x m t0 n = 0 := by
            by_cases hke : k = n
            · subst hke
              unfold wgS
              rw [if_neg c101]
            · have hw0 : (rnT (sfc L (fT F) (fW F) d g) (sfc L (fT F) 3 d g) x m t0 k).1 = 0 := by omega
              unfold wgS
              rw [rnT_zero hw0 n (by omega)]
              split <;> rfl
          rw [hz]
          exact ⟨rfl, K, rfl, hK, hfr⟩
        · refine mRun.go (q_iload dX8_weightIfThere_104 rfl) ?_
          refine mRun.go (q_goto (tgt := 110) dX8_weightIfThere_106 (by decide)) ?_
          refine r_iret dX8_weightIfThere_110 rfl ?_
          have hz : wgS (sfc L (fT F) (fW F) d g) (sfc L (fT F) 3 d g) x m t0 n = (rnT (sfc L (fT F) (fW F) d g) (sfc L (fT F) 3 d g) x m t0 k).1 := by
            by_cases hke : k = n
            · subst hke
              unfold wgS
              rw [if_pos (Classical.not_not.mp c101)]
            · have hw0 : (rnT (sfc L (fT F) (fW F) d g) (sfc L (fT F) 3 d g) x m t0 k).1 = 0 := by omega
              unfold wgS
              rw [rnT_zero hw0 n (by omega)]
              rw [hw0]
              split <;> rfl
          rw [hz]
          exact ⟨rfl, K, rfl, hK, hfr⟩
      · refine mRun.go (q_iload_n dX8_weightIfThere_25 rfl rfl) ?_
        refine mRun.go (q_iload dX8_weightIfThere_26 rfl) ?_
        refine mRun.go (q_ishr dX8_weightIfThere_28) ?_
        refine mRun.go (q_iconst dX8_weightIfThere_29) ?_
        refine mRun.go (q_iand dX8_weightIfThere_30) ?_
        refine mRun.go (q_iconst dX8_weightIfThere_31) ?_
        refine r_icmp_ne (tgt := 58) dX8_weightIfThere_32 (by decide) (mand_rng _ _) (by omega) (fun c32 => ?_) (fun c32 => ?_)
        · refine mRun.go (q_iload dX8_weightIfThere_58 rfl) ?_
          refine mRun.go (q_bipush dX8_weightIfThere_60 (by decide)) ?_
          refine mRun.go (q_iload dX8_weightIfThere_62 rfl) ?_
          refine mRun.go (q_isub dX8_weightIfThere_64) ?_
          refine mRun.go (q_imul dX8_weightIfThere_65) ?_
          refine mRun.go (q_istore (ls' := [some (mr 0), some (mr r), some (mi m), some (mi (n : Int)), some (mi x), some (mi (((rnT (sfc L (fT F) (fW F) d g) (sfc L (fT F) 3 d g) x m t0 k).1) * (10 - x))), some (mi (k : Int))]) dX8_weightIfThere_66 (Nat.le_of_ble_eq_true rfl) rfl) ?_
          refine mRun.go (q_aload_n dX8_weightIfThere_68 rfl rfl) ?_
          refine mRun.go (q_aload_n dX8_weightIfThere_69 rfl rfl) ?_
          refine mRun.go (q_getR dX8_weightIfThere_70 fo_X8_65 hD.1 rfl) ?_
          refine mRun.go (q_aload_n dX8_weightIfThere_73 rfl rfl) ?_
          refine mRun.go (q_getR dX8_weightIfThere_74 fo_X8_75 hD.1 rfl) ?_
          refine mRun.go (q_aload_n dX8_weightIfThere_77 rfl rfl) ?_
          refine mRun.go (q_getR dX8_weightIfThere_78 fo_X8_33 hD.1 rfl) ?_
          refine mRun.go (q_getE (x := fW F) dX8_weightIfThere_81 fo_X8_136 (dm_n hD).1 rfl (by rw [hfr 28 (by decide)]; exact hF.1)) ?_
          refine mRun.go (q_callVv (r := 0) [mr 132, mr 134, mi (fW F)] [] dX8_weightIfThere_84 co_X8_238 ⟨Nat.le_of_ble_eq_true rfl, Nat.le_of_ble_eq_true rfl⟩ gw_569 gs_13 rfl hD.1 rfl rfl rfl (Nat.le_of_ble_eq_true rfl) (k_walkHour (e := ent L (fT F) (fW F) d) (g := (g).toNat) hK hD hL hLRK (dm_w hD) (dm_y hD) (by omega) (wfg_e hL) (fun _ => hky) (by rw [ht]; exact hok))) ?_
          refine mRun.go (q_iinc (ls' := [some (mr 0), some (mr r), some (mi m), some (mi (n : Int)), some (mi x), some (mi (((rnT (sfc L (fT F) (fW F) d g) (sfc L (fT F) 3 d g) x m t0 k).1) * (10 - x))), some (mi ((k : Int) + 1))]) dX8_weightIfThere_87 rfl (Nat.le_of_ble_eq_true rfl) rfl) ?_
          refine mRun.go (q_goto (tgt := 14) dX8_weightIfThere_90 (by decide)) ?_
          have e1 : ((k : Int) + 1) = ((k + 1 : Nat) : Int) := by omega
          have e2 : rnT (sfc L (fT F) (fW F) d g) (sfc L (fT F) 3 d g) x m t0 (k + 1) = ((rnT (sfc L (fT F) (fW F) d g) (sfc L (fT F) 3 d g) x m t0 k).1 * (10 - x), (sfc L (fT F) (fW F) d g) (rnT (sfc L (fT F) (fW F) d g) (sfc L (fT F) 3 d g) x m t0 k).2) := by simp only [rnT]; rw [if_neg c32]
          have h := ih (k + 1) (tset K 132 ((sfc L (fT F) (fW F) d g) (rnT (sfc L (fT F) (fW F) d g) (sfc L (fT F) 3 d g) x m t0 k).2)) (by omega) (by omega) (nrm_trv hK (by omega) (by omega) (sfc_ok hL hok)) (fun q a => by rw [← hfr q a]; funext k; exact tset_ne a) (by rw [e2]; exact tget_tset)
          rw [e2] at h
          rw [e1, ht]
          exact h
        · refine mRun.go (q_iload dX8_weightIfThere_35 rfl) ?_
          refine mRun.go (q_iload dX8_weightIfThere_37 rfl) ?_
          refine mRun.go (q_imul dX8_weightIfThere_39) ?_
          refine mRun.go (q_istore (ls' := [some (mr 0), some (mr r), some (mi m), some (mi (n : Int)), some (mi x), some (mi (((rnT (sfc L (fT F) (fW F) d g) (sfc L (fT F) 3 d g) x m t0 k).1) * x)), some (mi (k : Int))]) dX8_weightIfThere_40 (Nat.le_of_ble_eq_true rfl) rfl) ?_
          refine mRun.go (q_aload_n dX8_weightIfThere_42 rfl rfl) ?_
          refine mRun.go (q_aload_n dX8_weightIfThere_43 rfl rfl) ?_
          refine mRun.go (q_getR dX8_weightIfThere_44 fo_X8_65 hD.1 rfl) ?_
          refine mRun.go (q_aload_n dX8_weightIfThere_47 rfl rfl) ?_
          refine mRun.go (q_getR dX8_weightIfThere_48 fo_X8_79 hD.1 rfl) ?_
          refine mRun.go (q_iconst dX8_weightIfThere_51) ?_
          refine mRun.go (q_callVv (r := 0) [mr 132, mr 139, mi 3] [] dX8_weightIfThere_52 co_X8_238 ⟨Nat.le_of_ble_eq_true rfl, Nat.le_of_ble_eq_true rfl⟩ gw_569 gs_13 rfl hD.1 rfl rfl rfl (Nat.le_of_ble_eq_true rfl) (k_walkHour (e := ent L (fT F) (3) d) (g := (g).toNat) hK hD hL hLRK (dm_w hD) (dm_z hD) (by omega) (wfg_e hL) (fun _ => hkz) (by rw [ht]; exact hok))) ?_
          refine mRun.go (q_goto (tgt := 87) dX8_weightIfThere_55 (by decide)) ?_
          refine mRun.go (q_iinc (ls' := [some (mr 0), some (mr r), some (mi m), some (mi (n : Int)), some (mi x), some (mi (((rnT (sfc L (fT F) (fW F) d g) (sfc L (fT F) 3 d g) x m t0 k).1) * x)), some (mi ((k : Int) + 1))]) dX8_weightIfThere_87 rfl (Nat.le_of_ble_eq_true rfl) rfl) ?_
          refine mRun.go (q_goto (tgt := 14) dX8_weightIfThere_90 (by decide)) ?_
          have e1 : ((k : Int) + 1) = ((k + 1 : Nat) : Int) := by omega
          have e2 : rnT (sfc L (fT F) (fW F) d g) (sfc L (fT F) 3 d g) x m t0 (k + 1) = ((rnT (sfc L (fT F) (fW F) d g) (sfc L (fT F) 3 d g) x m t0 k).1 * x, (sfc L (fT F) 3 d g) (rnT (sfc L (fT F) (fW F) d g) (sfc L (fT F) 3 d g) x m t0 k).2) := by simp only [rnT]; rw [if_pos (Classical.not_not.mp c32)]
          have h := ih (k + 1) (tset K 132 ((sfc L (fT F) 3 d g) (rnT (sfc L (fT F) (fW F) d g) (sfc L (fT F) 3 d g) x m t0 k).2)) (by omega) (by omega) (nrm_trv hK (by omega) (by omega) (sfc_ok hL hok)) (fun q a => by rw [← hfr q a]; funext k; exact tset_ne a) (by rw [e2]; exact tget_tset)
          rw [e2] at h
          rw [e1, ht]
          exact h

set_option maxRecDepth 100000 in
theorem k_weight {σ : List mC} {I : mI} {L : Ld} (hI : Nrm I) (hD : IsDM σ) (hL : LdOk L) (hLR : LRC I L) {F : Fs} (hF : FRC I 28 L F) (hwF : 0 ≤ fW F ∧ fW F ≤ 3) {r n : Nat} {d g x m : Int} (hr : IsTrv σ r) (hne : r ≠ 132) (hrt : TvOk (lP L) (lD L) (tget I r)) (hn8 : n ≤ 8) (hx : 0 ≤ x ∧ x ≤ 10) (hm : 0 ≤ m ∧ m < 1000) (hky : Knows I 134 (lQ L) (nbL L) (ent L (fT F) (fW F) d) g.toNat) (hkz : Knows I 139 (lQ L) (nbL L) (ent L (fT F) 3 d) g.toNat)  : mMt mX8_weightIfThere [mr 0, mr r, mi m, mi (n : Int), mi x] (σ, I) (fun v h => v = some (mi (wgS (sfx L (fT F) (fW F) d g) (sfx L (fT F) 3 d g) x m (nrmT (tget I r)) n)) ∧ ∃ K, h = (σ, K) ∧ Nrm K ∧ (∀ r, r ≠ 132 → K r = I r)) := by
  refine mMt.of pl_8 (Nat.le_of_ble_eq_true rfl) ?_
  show mRun mZt mX8_weightIfThere 0 [some (mr 0), some (mr r), some (mi m), some (mi (n : Int)), some (mi x), none, none] [] (σ, I) _
  refine mRun.go (q_aload_n dX8_weightIfThere_0 rfl rfl) ?_
  refine mRun.go (q_getR dX8_weightIfThere_1 fo_X8_65 hD.1 rfl) ?_
  refine mRun.go (q_aload_n dX8_weightIfThere_4 rfl rfl) ?_
  refine mRun.go (q_callVv (r := 132) [mr r] [] dX8_weightIfThere_5 co_X8_212 ⟨Nat.le_of_ble_eq_true rfl, Nat.le_of_ble_eq_true rfl⟩ gw_392 gw_393 rfl (dm_w hD) rfl rfl rfl (Nat.le_of_ble_eq_true rfl) (k_tcopy (dm_w hD) hr hne hI)) ?_
  refine mRun.go (q_iconst dX8_weightIfThere_8) ?_
  refine mRun.go (q_istore (ls' := [some (mr 0), some (mr r), some (mi m), some (mi (n : Int)), some (mi x), some (mi 1), none]) dX8_weightIfThere_9 (Nat.le_of_ble_eq_true rfl) rfl) ?_
  refine mRun.go (q_iconst dX8_weightIfThere_11) ?_
  refine mRun.go (q_istore (ls' := [some (mr 0), some (mr r), some (mi m), some (mi (n : Int)), some (mi x), some (mi 1), some (mi 0)]) dX8_weightIfThere_12 (Nat.le_of_ble_eq_true rfl) rfl) ?_
  have hrn := rnT_nrm (x := x) (m := m) (f := (sfc L (fT F) (fW F) d g)) (g := (sfc L (fT F) 3 d g)) (f' := (sfx L (fT F) (fW F) d g)) (g' := (sfx L (fT F) 3 d g)) (fun t ht => sfc_nrm ht) (fun t ht => sfc_nrm ht) (fun t ht => sfc_ok hL ht) (fun t ht => sfc_ok hL ht) hrt n
  have e : wgS (sfx L (fT F) (fW F) d g) (sfx L (fT F) 3 d g) x m (nrmT (tget I r)) n = wgS (sfc L (fT F) (fW F) d g) (sfc L (fT F) 3 d g) x m (tget I r) n := by
    unfold wgS
    rw [hrn.2.1, hrn.2.2]
    rfl
  rw [e]
  have hN1 := nrm_trv (r := 132) hI (by have := lp_rng hL; omega) (by have := hL.2.2.1; omega) hrt
  refine mRun.im (k_weight_loop (r := r) (t0 := tget I r) hN1 hD hL (lrc_tset hLR (by omega)) (hF.fr hL (fun r a b => by funext k; exact tset_ne (by omega)) (by funext k; exact tset_ne (by decide))) hwF hn8 hx hm (knows_tset hky (by decide) (by decide)) (knows_tset hkz (by decide) (by decide)) hrt (n + 1) 0 (tset I 132 (tget I r)) (by omega) (by omega) hN1 (fun _ _ => rfl) tget_tset) ?_
  rintro v h ⟨rfl, K, rfl, hK, hfr⟩
  exact ⟨rfl, K, rfl, hK, fun q a => by rw [hfr q a]; funext k; exact tset_ne a⟩
