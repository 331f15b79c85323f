/-! ===== DrumMaps: the calls that look ahead ===== -/
theorem cs_q {σ : List mC} {I K : mI} {S : Sx} {B : Int} (h : CS σ I S) (hS : SxOk B S) (hK : Nrm K) (hf : FrQ I K) : CS σ K S := ⟨hK, h.2.1, h.2.2.1.fr hS.1 hS.2.2.1 hf, h.2.2.2.fr hS.1 hS.2.2.2.2.1 hf⟩
theorem out_tr {σ : List mC} {I K : mI} {S : Sx} {x : Int} (hf : FrQ I K) {v : Option mV} {h : mH} (o : Out σ K S x v h) : Out σ I S x v h := by
  obtain ⟨h1, σ', J, h2, h3, h4, h5, h6⟩ := o
  exact ⟨h1, σ', J, h2, fun r hr => (h3 r hr).trans (hf r (by omega)), h4, h5, h6⟩
theorem anS_rng {S : Sx} {s : Int} {t : Tv} : anS S s t = -4 ∨ (0 ≤ anS S s t ∧ anS S s t < 61) := ansU_rng
theorem sdr_self {t : Tv} : sdr t t.2.2.1 = t := rfl
theorem iup_back {T : Int → Int} {i g : Int} : iup (iup T i g) i (T i) = T := by
  funext j
  unfold iup
  split
  · next q => rw [q]
  · rfl
theorem setTl_back {F : Fs} {i g : Int} : setTl (setTl F i g) i (fT F i) = F := by
  show (F.1, F.2.1, iup (iup (fT F) i g) i (fT F i), F.2.2.2) = F
  rw [iup_back]

set_option maxRecDepth 100000 in
theorem f_fastest_loop {σ : List mC} {S : Sx} {B t : Int} (hS : SxOk B S) (ht : isT S t) : ∀ (n d : Nat) (I : mI) (o6 : Option mV), (lD (sL S)).toNat - d < n → d ≤ (lD (sL S)).toNat → CS σ I S → mRun mZt mX8_fastest 42 [some (mr 0), some (mi t), some (mr (28 + 4 + t.toNat)), some (mi (bst (fun d => anS S 1 (sdr (tvS S t) ((d : Nat) : Int))) 1000000 d).1), some (mi (bst (fun d => anS S 1 (sdr (tvS S t) ((d : Nat) : Int))) 1000000 d).2), some (mi (d : Int)), o6] [] (σ, I) (Out σ I S (bst (fun d => anS S 1 (sdr (tvS S t) ((d : Nat) : Int))) 1000000 (lD (sL S)).toNat).1) := by
  intro n
  induction n with
  | zero => intro d I o6 h; omega
  | succ n ih =>
    intro d I o6 hn hd0 hC
    obtain ⟨q, hq1, hq2, hU, hq4⟩ := hC.2.2.1
    have hI := hC.1
    have hD := hC.2.1
    have hL := hS.1
    have hT := hC.2.2.2.1
    have hLR := hC.2.2.2.2.1
    have hF := hC.2.2.2.2.2.1
    have hpr := lp_rng hL
    have hqe := lq_eq hL
    have hwr := hL.2.1
    have hdr := hL.2.2.1
    have hnt := hL.2.2.2.1
    have hwF := hS.2.1.1
    have hhF := hS.2.1.2.1
    have hH8 := hS.2.2.2.2.2.2.1
    have hU8 := hS.2.2.1
    have hK2 := hS.2.2.2.2.1
    have hLn := hS.2.2.2.2.2.2.2.2
    have ht : 0 ≤ t ∧ t < lTv (sL S) := ht
    have hto := hF.2.2.2 t.toNat (by omega)
    have hb := @bst_rng (fun d => anS S 1 (sdr (tvS S t) ((d : Nat) : Int))) 1000000 ⟨by decide, by decide⟩ (fun k => by have := @anS_rng S 1 (sdr (tvS S t) ((k : Nat) : Int)); show anS S 1 (sdr (tvS S t) ((k : Nat) : Int)) = -4 ∨ 0 ≤ anS S 1 (sdr (tvS S t) ((k : Nat) : Int)); omega) d
    have har := @anS_rng S 1 (sdr (tvS S t) ((d : Nat) : Int))
    refine mRun.go (q_iload dX8_fastest_42 rfl) ?_
    refine mRun.go (q_aload_n dX8_fastest_44 rfl rfl) ?_
    refine mRun.go (q_getR dX8_fastest_45 fo_X8_26 hD.1 rfl) ?_
    refine mRun.go (q_getE (x := lD (sL S)) dX8_fastest_48 fo_X8_225 (dm_l hD).1 rfl hLR.2.2.1) ?_
    refine r_icmp_ge (tgt := 94) dX8_fastest_51 (by decide) (by omega) (by omega) (fun c51 => ?_) (fun c51 => ?_)
    · refine mRun.go (q_iload_n dX8_fastest_94 rfl rfl) ?_
      refine r_iret dX8_fastest_95 rfl ?_
      have hde : d = (lD (sL S)).toNat := by omega
      subst hde
      exact out_q hC hS hI frq_rf
    · refine mRun.go (q_aload_n dX8_fastest_54 rfl rfl) ?_
      refine mRun.go (q_aload_n dX8_fastest_55 rfl rfl) ?_
      refine mRun.go (q_getR dX8_fastest_56 fo_X8_33 hD.1 rfl) ?_
      refine mRun.go (q_aload_n dX8_fastest_59 rfl rfl) ?_
      refine mRun.go (q_iload dX8_fastest_60 rfl) ?_
      obtain ⟨v0, h0, hc0, rfl, K, rfl, hK, hfK⟩ := k_toArrive (r := 28 + 4 + t.toNat) (d := (d : Int)) hI hD hL hLR (dm_n hD) hF (Or.inl rfl) hwF ((dm_n hD).2.2.2 t.toNat (by omega)) (by omega) hto.2 (by omega)
      rw [hto.1] at hc0
      have hfQ : FrQ I K := fun r a => hfK r (by omega) (by omega)
      refine mRun.go (q_callVi (r := 0) [mr 28, mr (28 + 4 + t.toNat), mi (d : Int)] [] dX8_fastest_62 co_X8_228 ⟨Nat.le_of_ble_eq_true rfl, Nat.le_of_ble_eq_true rfl⟩ gw_634 gs_17 rfl hD.1 rfl rfl rfl (Nat.le_of_ble_eq_true rfl) hc0) ?_
      refine mRun.go (q_istore (ls' := [some (mr 0), some (mi t), some (mr (28 + 4 + t.toNat)), some (mi ((bst (fun d => anS S 1 (sdr (tvS S t) ((d : Nat) : Int))) 1000000 d).1)), some (mi ((bst (fun d => anS S 1 (sdr (tvS S t) ((d : Nat) : Int))) 1000000 d).2)), some (mi (d : Int)), some (mi (anS S 1 (sdr (tvS S t) (d : Int))))]) dX8_fastest_65 (Nat.le_of_ble_eq_true rfl) rfl) ?_
      refine mRun.go (q_iload dX8_fastest_67 rfl) ?_
      refine mRun.go (q_bipush dX8_fastest_69 (by decide)) ?_
      refine r_icmp_eq (tgt := 88) dX8_fastest_71 (by decide) (by omega) (by omega) (fun c71 => ?_) (fun c71 => ?_)
      · refine mRun.go (q_iinc (ls' := [some (mr 0), some (mi t), some (mr (28 + 4 + t.toNat)), some (mi ((bst (fun d => anS S 1 (sdr (tvS S t) ((d : Nat) : Int))) 1000000 d).1)), some (mi ((bst (fun d => anS S 1 (sdr (tvS S t) ((d : Nat) : Int))) 1000000 d).2)), some (mi ((d : Int) + 1)), some (mi (anS S 1 (sdr (tvS S t) (d : Int))))]) dX8_fastest_88 rfl (Nat.le_of_ble_eq_true rfl) rfl) ?_
        refine mRun.go (q_goto (tgt := 42) dX8_fastest_91 (by decide)) ?_
        have e1 : ((d : Int) + 1) = ((d + 1 : Nat) : Int) := by omega
        have e2 : bst (fun d => anS S 1 (sdr (tvS S t) ((d : Nat) : Int))) 1000000 (d + 1) = bst (fun d => anS S 1 (sdr (tvS S t) ((d : Nat) : Int))) 1000000 d := by simp only [bst]; rw [if_neg (by omega)]
        have h := ih (d + 1) K (some (mi (anS S 1 (sdr (tvS S t) (d : Int))))) (by omega) (by omega) (cs_q hC hS hK hfQ)
        rw [e2] at h
        rw [e1]
        exact mRun.im h (fun v h => out_tr hfQ)
      · refine mRun.go (q_iload dX8_fastest_74 rfl) ?_
        refine mRun.go (q_iload dX8_fastest_76 rfl) ?_
        refine r_icmp_ge (tgt := 88) dX8_fastest_78 (by decide) (by omega) (by omega) (fun c78 => ?_) (fun c78 => ?_)
        · refine mRun.go (q_iinc (ls' := [some (mr 0), some (mi t), some (mr (28 + 4 + t.toNat)), some (mi ((bst (fun d => anS S 1 (sdr (tvS S t) ((d : Nat) : Int))) 1000000 d).1)), some (mi ((bst (fun d => anS S 1 (sdr (tvS S t) ((d : Nat) : Int))) 1000000 d).2)), some (mi ((d : Int) + 1)), some (mi (anS S 1 (sdr (tvS S t) (d : Int))))]) dX8_fastest_88 rfl (Nat.le_of_ble_eq_true rfl) rfl) ?_
          refine mRun.go (q_goto (tgt := 42) dX8_fastest_91 (by decide)) ?_
          have e1 : ((d : Int) + 1) = ((d + 1 : Nat) : Int) := by omega
          have e2 : bst (fun d => anS S 1 (sdr (tvS S t) ((d : Nat) : Int))) 1000000 (d + 1) = bst (fun d => anS S 1 (sdr (tvS S t) ((d : Nat) : Int))) 1000000 d := by simp only [bst]; rw [if_neg (by omega)]
          have h := ih (d + 1) K (some (mi (anS S 1 (sdr (tvS S t) (d : Int))))) (by omega) (by omega) (cs_q hC hS hK hfQ)
          rw [e2] at h
          rw [e1]
          exact mRun.im h (fun v h => out_tr hfQ)
        · refine mRun.go (q_iload dX8_fastest_81 rfl) ?_
          refine mRun.go (q_istore (ls' := [some (mr 0), some (mi t), some (mr (28 + 4 + t.toNat)), some (mi ((bst (fun d => anS S 1 (sdr (tvS S t) ((d : Nat) : Int))) 1000000 d).1)), some (mi (anS S 1 (sdr (tvS S t) (d : Int)))), some (mi (d : Int)), some (mi (anS S 1 (sdr (tvS S t) (d : Int))))]) dX8_fastest_83 (Nat.le_of_ble_eq_true rfl) rfl) ?_
          refine mRun.go (q_iload dX8_fastest_85 rfl) ?_
          refine mRun.go (q_istore_n (ls' := [some (mr 0), some (mi t), some (mr (28 + 4 + t.toNat)), some (mi (d : Int)), some (mi (anS S 1 (sdr (tvS S t) (d : Int)))), some (mi (d : Int)), some (mi (anS S 1 (sdr (tvS S t) (d : Int))))]) dX8_fastest_87 rfl (Nat.le_of_ble_eq_true rfl) rfl) ?_
          refine mRun.go (q_iinc (ls' := [some (mr 0), some (mi t), some (mr (28 + 4 + t.toNat)), some (mi (d : Int)), some (mi (anS S 1 (sdr (tvS S t) (d : Int)))), some (mi ((d : Int) + 1)), some (mi (anS S 1 (sdr (tvS S t) (d : Int))))]) dX8_fastest_88 rfl (Nat.le_of_ble_eq_true rfl) rfl) ?_
          refine mRun.go (q_goto (tgt := 42) dX8_fastest_91 (by decide)) ?_
          have e1 : ((d : Int) + 1) = ((d + 1 : Nat) : Int) := by omega
          have e2 : bst (fun d => anS S 1 (sdr (tvS S t) ((d : Nat) : Int))) 1000000 (d + 1) = ((d : Int), anS S 1 (sdr (tvS S t) (d : Int))) := by simp only [bst]; rw [if_pos ⟨c71, by omega⟩]
          have h := ih (d + 1) K (some (mi (anS S 1 (sdr (tvS S t) (d : Int))))) (by omega) (by omega) (cs_q hC hS hK hfQ)
          rw [e2] at h
          rw [e1]
          exact mRun.im h (fun v h => out_tr hfQ)

set_option maxRecDepth 100000 in
theorem f_fastest {σ : List mC} {I : mI} {S : Sx} {B : Int} {t : Int} (hC : CS σ I S) (hS : SxOk B S) (ht : -2147483648 ≤ t ∧ t < 2147483648) : mMt mX8_fastest [mr 0, mi t] (σ, I) (Out σ I S (a_fastest S t)) := by
  refine mMt.of pl_8 (Nat.le_of_ble_eq_true rfl) ?_
  show mRun mZt mX8_fastest 0 [some (mr 0), some (mi t), none, none, none, none, none] [] (σ, I) _
  obtain ⟨q, hq1, hq2, hU, hq4⟩ := hC.2.2.1
  have hI := hC.1
  have hD := hC.2.1
  have hL := hS.1
  have hT := hC.2.2.2.1
  have hLR := hC.2.2.2.2.1
  have hF := hC.2.2.2.2.2.1
  have hpr := lp_rng hL
  have hqe := lq_eq hL
  have hwr := hL.2.1
  have hdr := hL.2.2.1
  have hnt := hL.2.2.2.1
  have hwF := hS.2.1.1
  have hhF := hS.2.1.2.1
  have hH8 := hS.2.2.2.2.2.2.1
  have hU8 := hS.2.2.1
  have hK2 := hS.2.2.2.2.1
  have hLn := hS.2.2.2.2.2.2.2.2
  refine mRun.go (q_aload_n dX8_fastest_0 rfl rfl) ?_
  refine mRun.go (q_getR dX8_fastest_1 fo_X8_26 hD.1 rfl) ?_
  refine mRun.go (q_iload_n dX8_fastest_4 rfl rfl) ?_
  have hh5 := @k_hasTrv σ I 21 t (dm_l hD) hI ht
  rw [hLR.2.2.2.1] at hh5
  refine mRun.go (q_callVi (r := 21) [mi t] [] dX8_fastest_5 co_X8_146 ⟨Nat.le_of_ble_eq_true rfl, Nat.le_of_ble_eq_true rfl⟩ gw_489 gw_490 rfl (dm_l hD).1 rfl rfl rfl (Nat.le_of_ble_eq_true rfl) hh5) ?_
  refine r_if_ne (tgt := 13) dX8_fastest_8 (by decide) (by split <;> omega) (fun c8 => ?_) (fun c8 => ?_)
  · have h8 := ite01 c8
    refine mRun.go (q_aload_n dX8_fastest_13 rfl rfl) ?_
    refine mRun.go (q_getR dX8_fastest_14 fo_X8_33 hD.1 rfl) ?_
    refine mRun.go (q_iload_n dX8_fastest_17 rfl rfl) ?_
    refine mRun.go (q_callVi (r := 28) [mi t] [] dX8_fastest_18 co_X8_149 ⟨Nat.le_of_ble_eq_true rfl, Nat.le_of_ble_eq_true rfl⟩ gw_348 gw_349 rfl (dm_n hD).1 rfl rfl rfl (Nat.le_of_ble_eq_true rfl) (k_who (dm_n hD) (by omega))) ?_
    refine mRun.go (q_astore_n (ls' := [some (mr 0), some (mi t), some (mr (28 + 4 + t.toNat)), none, none, none, none]) dX8_fastest_21 rfl (Nat.le_of_ble_eq_true rfl) rfl) ?_
    refine mRun.go (q_aload_n dX8_fastest_22 rfl rfl) ?_
    refine mRun.go (q_getE (x := (tget I (28 + 4 + t.toNat)).2.2.2.1) dX8_fastest_23 fo_X8_162 ((dm_n hD).2.2.2 t.toNat (by omega)) rfl rfl) ?_
    refine r_if_eq (tgt := 32) dX8_fastest_26 (by decide) (hI _ _) (fun c26 => ?_) (fun c26 => ?_)
    · refine mRun.go (q_bipush dX8_fastest_32 (by decide)) ?_
      refine mRun.go (q_istore_n (ls' := [some (mr 0), some (mi t), some (mr (28 + 4 + t.toNat)), some (mi (-4)), none, none, none]) dX8_fastest_34 rfl (Nat.le_of_ble_eq_true rfl) rfl) ?_
      refine mRun.go (q_ldc (a := 1000000) dX8_fastest_35 gw_509) ?_
      refine mRun.go (q_istore (ls' := [some (mr 0), some (mi t), some (mr (28 + 4 + t.toNat)), some (mi (-4)), some (mi 1000000), none, none]) dX8_fastest_37 (Nat.le_of_ble_eq_true rfl) rfl) ?_
      refine mRun.go (q_iconst dX8_fastest_39) ?_
      refine mRun.go (q_istore (ls' := [some (mr 0), some (mi t), some (mr (28 + 4 + t.toNat)), some (mi (-4)), some (mi 1000000), some (mi 0), none]) dX8_fastest_40 (Nat.le_of_ble_eq_true rfl) rfl) ?_
      have hto := hF.2.2.2 t.toNat (by omega)
      have e : a_fastest S t = (bst (fun d => anS S 1 (sdr (tvS S t) ((d : Nat) : Int))) 1000000 (lD (sL S)).toNat).1 := by
        simp only [a_fastest, isT]
        rw [if_pos (by omega), if_pos (show (fV (sF S) t.toNat).2.2.2.1 = 0 from by rw [← hto.1]; exact c26)]
      rw [e]
      exact f_fastest_loop hS (by omega) ((lD (sL S)).toNat + 1) 0 I none (by omega) (by omega) hC
    · refine mRun.go (q_bipush dX8_fastest_29 (by decide)) ?_
      refine r_iret dX8_fastest_31 rfl ?_
      have e : a_fastest S t = (-2) := by
        simp only [a_fastest, isT]
        have hto := hF.2.2.2 t.toNat (by omega)
        rw [if_pos (by omega), if_neg (show ¬ (fV (sF S) t.toNat).2.2.2.1 = 0 from by rw [← hto.1]; exact c26)]
      rw [e]
      exact out_q hC hS hI frq_rf
  · have h8 := ite00 (Classical.not_not.mp c8)
    refine mRun.go (q_iconst dX8_fastest_11) ?_
    refine r_iret dX8_fastest_12 rfl ?_
    have e : a_fastest S t = (-1) := by
      simp only [a_fastest, isT]
      rw [if_neg (by omega)]
    rw [e]
    exact out_q hC hS hI frq_rf

set_option maxRecDepth 100000 in
theorem f_tune_loop {σ : List mC} {S : Sx} {B t as : Int} (hS : SxOk B S) (ht : isT S t) : ∀ (n x : Nat) (I : mI) (o7 o8 : Option mV), lQ (sL S) - x < n → x ≤ lQ (sL S) → CS σ I S → FRC I 124 (sL S) (sF S) → mRun mZt mX8_tune 78 [some (mr 0), some (mi t), some (mr (28 + 4 + t.toNat)), some (mi as), some (mi (bst (tunF S (tvS S t)) (tun0 S (tvS S t)) x).2), some (mi (bst (tunF S (tvS S t)) (tun0 S (tvS S t)) x).1), some (mi (x : Int)), o7, o8] [] (σ, I) (Out σ I S (bst (tunF S (tvS S t)) (tun0 S (tvS S t)) (lQ (sL S))).1) := by
  intro n
  induction n with
  | zero => intro x I o7 o8 h; omega
  | succ n ih =>
    intro x I o7 o8 hn hx0 hC hFS
    obtain ⟨q, hq1, hq2, hU, hq4⟩ := hC.2.2.1
    have hI := hC.1
    have hD := hC.2.1
    have hL := hS.1
    have hT := hC.2.2.2.1
    have hLR := hC.2.2.2.2.1
    have hF := hC.2.2.2.2.2.1
    have hpr := lp_rng hL
    have hqe := lq_eq hL
    have hwr := hL.2.1
    have hdr := hL.2.2.1
    have hnt := hL.2.2.2.1
    have hwF := hS.2.1.1
    have hhF := hS.2.1.2.1
    have hH8 := hS.2.2.2.2.2.2.1
    have hU8 := hS.2.2.1
    have hK2 := hS.2.2.2.2.1
    have hLn := hS.2.2.2.2.2.2.2.2
    have ht : 0 ≤ t ∧ t < lTv (sL S) := ht
    have hto := hF.2.2.2 t.toNat (by omega)
    have htm := hS.2.1.2.2.2 t.toNat (by omega)
    have hdd : 0 ≤ (tvS S t).2.2.1 ∧ (tvS S t).2.2.1 < lD (sL S) := htm.2.2.1
    have hb := @bst_rng (tunF S (tvS S t)) (tun0 S (tvS S t)) (by unfold tun0; have := @anS_rng S 1 (tvS S t); split <;> omega) (fun k => by unfold tunF; have := @ansU_rng (sL S) (iup (fT (sF S)) (36 * (tvS S t).2.2.1 + (k : Int)) (lG (sL S) (k : Int))) (fW (sF S)) 1 (tvS S t); split <;> omega) x
    have htr : x < lQ (sL S) → 0 ≤ fT (sF S) (36 * (tvS S t).2.2.1 + (x : Int)) ∧ fT (sF S) (36 * (tvS S t).2.2.1 + (x : Int)) ≤ 3 := fun q => hS.2.1.2.2.1 _ _ hdd.1 hdd.2 (by omega) (by omega)
    refine mRun.go (q_iload dX8_tune_78 rfl) ?_
    refine mRun.go (q_aload_n dX8_tune_80 rfl rfl) ?_
    refine mRun.go (q_getR dX8_tune_81 fo_X8_26 hD.1 rfl) ?_
    refine mRun.go (q_getE (x := lP (sL S)) dX8_tune_84 fo_X8_113 (dm_l hD).1 rfl hLR.1) ?_
    refine r_icmp_ge (tgt := 203) dX8_tune_87 (by decide) (by omega) (by omega) (fun c87 => ?_) (fun c87 => ?_)
    · refine mRun.go (q_iload dX8_tune_203 rfl) ?_
      refine r_iret dX8_tune_205 rfl ?_
      have hxe : x = lQ (sL S) := by omega
      subst hxe
      exact out_q hC hS hI frq_rf
    · refine mRun.go (q_aload_n dX8_tune_90 rfl rfl) ?_
      refine mRun.go (q_getR dX8_tune_91 fo_X8_33 hD.1 rfl) ?_
      refine mRun.go (q_aload_n dX8_tune_94 rfl rfl) ?_
      refine mRun.go (q_getR dX8_tune_95 fo_X8_26 hD.1 rfl) ?_
      refine mRun.go (q_aload_n dX8_tune_98 rfl rfl) ?_
      refine mRun.go (q_getE (x := (tvS S t).2.2.1) dX8_tune_99 fo_X8_159 ((dm_n hD).2.2.2 t.toNat (by omega)) rfl (by show _ = (fV (sF S) t.toNat).2.2.1; rw [← hto.1]; rfl)) ?_
      refine mRun.go (q_iload dX8_tune_102 rfl) ?_
      refine mRun.go (q_callVi (r := 28) [mr 21, mi ((tvS S t).2.2.1), mi (x : Int)] [] dX8_tune_104 co_X8_129 ⟨Nat.le_of_ble_eq_true rfl, Nat.le_of_ble_eq_true rfl⟩ gw_468 gw_469 rfl (dm_n hD).1 rfl rfl rfl (Nat.le_of_ble_eq_true rfl) (k_tellsF hI (dm_n hD) hD hL hLR hF (by omega) (by omega))) ?_
      refine mRun.go (q_istore (ls' := [some (mr 0), some (mi t), some (mr (28 + 4 + t.toNat)), some (mi as), some (mi ((bst (tunF S (tvS S t)) (tun0 S (tvS S t)) x).2)), some (mi ((bst (tunF S (tvS S t)) (tun0 S (tvS S t)) x).1)), some (mi (x : Int)), some (mi (fT (sF S) (36 * ((tvS S t).2.2.1) + (x : Int)))), o8]) dX8_tune_107 (Nat.le_of_ble_eq_true rfl) rfl) ?_
      refine mRun.go (q_aload_n dX8_tune_109 rfl rfl) ?_
      refine mRun.go (q_getR dX8_tune_110 fo_X8_59 hD.1 rfl) ?_
      refine mRun.go (q_aload_n dX8_tune_113 rfl rfl) ?_
      refine mRun.go (q_getE (x := (tvS S t).2.2.1) dX8_tune_114 fo_X8_159 ((dm_n hD).2.2.2 t.toNat (by omega)) rfl (by show _ = (fV (sF S) t.toNat).2.2.1; rw [← hto.1]; rfl)) ?_
      refine mRun.go (q_iload dX8_tune_117 rfl) ?_
      refine mRun.go (q_iconst dX8_tune_119) ?_
      have hN1 : Nrm (rput I (124 + 1) 144 ((tvS S t).2.2.1 * 36 + (x : Int)) (-1)) := nrm_rput hI (by decide)
      have hF1 : FRC (rput I (124 + 1) 144 ((tvS S t).2.2.1 * 36 + (x : Int)) (-1)) 124 (sL S) (setTl (sF S) (36 * (tvS S t).2.2.1 + (x : Int)) (lG (sL S) (x : Int))) := frc_setTl hFS hLR hL (by omega) (by omega) (by omega) (by rw [if_pos rfl])
      have hfr1 : FrQ I (rput I (124 + 1) 144 ((tvS S t).2.2.1 * 36 + (x : Int)) (-1)) := fun r a => rput_nf (by omega)
      have hLR1 : LRC (rput I (124 + 1) 144 ((tvS S t).2.2.1 * 36 + (x : Int)) (-1)) (sL S) := hLR.fr (fun r a b => rput_nf (by omega))
      refine mRun.go (q_callVv (r := 124) [mi ((tvS S t).2.2.1), mi (x : Int), mi (-1)] [] dX8_tune_120 co_X8_198 ⟨Nat.le_of_ble_eq_true rfl, Nat.le_of_ble_eq_true rfl⟩ gw_339 gw_340 rfl (dm_s hD).1 rfl rfl rfl (Nat.le_of_ble_eq_true rfl) (k_setTold (dm_s hD) hI (by omega) (by omega) (by decide))) ?_
      refine mRun.go (q_iload dX8_tune_123 rfl) ?_
      refine mRun.go (q_aload_n dX8_tune_125 rfl rfl) ?_
      refine mRun.go (q_getR dX8_tune_126 fo_X8_26 hD.1 rfl) ?_
      refine mRun.go (q_getR dX8_tune_129 fo_X8_119 (dm_l hD).1 rfl) ?_
      refine mRun.go (q_iload dX8_tune_132 rfl) ?_
      refine mRun.go (q_callVi (r := 21 + 1) [mi (x : Int)] [mi (fT (sF S) (36 * ((tvS S t).2.2.1) + (x : Int)))] dX8_tune_134 co_X8_122 ⟨Nat.le_of_ble_eq_true rfl, Nat.le_of_ble_eq_true rfl⟩ gw_323 gw_324 rfl (dm_l hD).2.1.1 rfl rfl rfl (Nat.le_of_ble_eq_true rfl) (k_atE (dm_l hD).2.1 (by omega) (by decide) (lrc_g hLR1 hL (by omega)))) ?_
      refine r_icmp_ne (tgt := 145) dX8_tune_137 (by decide) (tl_rng hI hF hL (by omega) (by omega)) (by have := hL.2.2.2.2.1 (x : Int) (by omega) (by omega); omega) (fun c137 => ?_) (fun c137 => ?_)
      · refine mRun.go (q_aload_n dX8_tune_145 rfl rfl) ?_
        refine mRun.go (q_aload_n dX8_tune_146 rfl rfl) ?_
        refine mRun.go (q_getR dX8_tune_147 fo_X8_59 hD.1 rfl) ?_
        refine mRun.go (q_aload_n dX8_tune_150 rfl rfl) ?_
        refine mRun.go (q_aload_n dX8_tune_151 rfl rfl) ?_
        refine mRun.go (q_getE (x := (tvS S t).2.2.1) dX8_tune_152 fo_X8_159 ((dm_n hD).2.2.2 t.toNat (by omega)) rfl (by rw [rput_nf (by omega)]; show _ = (fV (sF S) t.toNat).2.2.1; rw [← hto.1]; rfl)) ?_
        have ht1 : tget (rput I (124 + 1) 144 ((tvS S t).2.2.1 * 36 + (x : Int)) (-1)) (28 + 4 + t.toNat) = tget I (28 + 4 + t.toNat) := by simp only [tget]; rw [rput_nf (by omega)]
        obtain ⟨v0, h0, hc0, rfl, K, rfl, hK, hfK⟩ := k_toArrive (r := 28 + 4 + t.toNat) (d := (tvS S t).2.2.1) hN1 hD hL hLR1 (dm_s hD) hF1 (Or.inr rfl) hwF ((dm_n hD).2.2.2 t.toNat (by omega)) (by omega) (by rw [ht1]; exact hto.2) (by omega)
        rw [ht1, hto.1] at hc0
        have hfQ : FrQ I K := frq_tr hfr1 (fun r a => hfK r (by omega) (by omega))
        have hFK : FRC K 124 (sL S) (setTl (sF S) (36 * (tvS S t).2.2.1 + (x : Int)) (lG (sL S) (x : Int))) := hF1.fr hL (fun r a b => hfK r (by omega) (by omega)) (hfK 23 (by omega) (by omega))
        have hLRK : LRC K (sL S) := hLR.fr (fun r a b => hfQ r (by omega))
        have har := @ansU_rng (sL S) (iup (fT (sF S)) (36 * (tvS S t).2.2.1 + (x : Int)) (lG (sL S) (x : Int))) (fW (sF S)) 1 (tvS S t)
        refine mRun.go (q_callVi (r := 0) [mr 124, mr (28 + 4 + t.toNat), mi ((tvS S t).2.2.1)] [] dX8_tune_155 co_X8_228 ⟨Nat.le_of_ble_eq_true rfl, Nat.le_of_ble_eq_true rfl⟩ gw_634 gs_17 rfl hD.1 rfl rfl rfl (Nat.le_of_ble_eq_true rfl) hc0) ?_
        refine mRun.go (q_istore (ls' := [some (mr 0), some (mi t), some (mr (28 + 4 + t.toNat)), some (mi as), some (mi ((bst (tunF S (tvS S t)) (tun0 S (tvS S t)) x).2)), some (mi ((bst (tunF S (tvS S t)) (tun0 S (tvS S t)) x).1)), some (mi (x : Int)), some (mi (fT (sF S) (36 * ((tvS S t).2.2.1) + (x : Int)))), some (mi (ansU (sL S) (iup (fT (sF S)) (36 * (tvS S t).2.2.1 + (x : Int)) (lG (sL S) (x : Int))) (fW (sF S)) 1 (tvS S t)))]) dX8_tune_158 (Nat.le_of_ble_eq_true rfl) rfl) ?_
        refine mRun.go (q_aload_n dX8_tune_160 rfl rfl) ?_
        refine mRun.go (q_getR dX8_tune_161 fo_X8_59 hD.1 rfl) ?_
        refine mRun.go (q_aload_n dX8_tune_164 rfl rfl) ?_
        refine mRun.go (q_getE (x := (tvS S t).2.2.1) dX8_tune_165 fo_X8_159 ((dm_n hD).2.2.2 t.toNat (by omega)) rfl (by rw [hfK (28 + 4 + t.toNat) (by omega) (by omega), rput_nf (by omega)]; show _ = (fV (sF S) t.toNat).2.2.1; rw [← hto.1]; rfl)) ?_
        refine mRun.go (q_iload dX8_tune_168 rfl) ?_
        refine mRun.go (q_iload dX8_tune_170 rfl) ?_
        refine mRun.go (q_callVv (r := 124) [mi ((tvS S t).2.2.1), mi (x : Int), mi (fT (sF S) (36 * ((tvS S t).2.2.1) + (x : Int)))] [] dX8_tune_172 co_X8_198 ⟨Nat.le_of_ble_eq_true rfl, Nat.le_of_ble_eq_true rfl⟩ gw_339 gw_340 rfl (dm_s hD).1 rfl rfl rfl (Nat.le_of_ble_eq_true rfl) (k_setTold (dm_s hD) hK (by omega) (by omega) (by omega))) ?_
        refine mRun.go (q_iload dX8_tune_175 rfl) ?_
        refine mRun.go (q_bipush dX8_tune_177 (by decide)) ?_
        refine r_icmp_eq (tgt := 197) dX8_tune_179 (by decide) (by omega) (by omega) (fun c179 => ?_) (fun c179 => ?_)
        · refine mRun.go (q_iinc (ls' := [some (mr 0), some (mi t), some (mr (28 + 4 + t.toNat)), some (mi as), some (mi ((bst (tunF S (tvS S t)) (tun0 S (tvS S t)) x).2)), some (mi ((bst (tunF S (tvS S t)) (tun0 S (tvS S t)) x).1)), some (mi ((x : Int) + 1)), some (mi (fT (sF S) (36 * ((tvS S t).2.2.1) + (x : Int)))), some (mi (ansU (sL S) (iup (fT (sF S)) (36 * (tvS S t).2.2.1 + (x : Int)) (lG (sL S) (x : Int))) (fW (sF S)) 1 (tvS S t)))]) dX8_tune_197 rfl (Nat.le_of_ble_eq_true rfl) rfl) ?_
          refine mRun.go (q_goto (tgt := 78) dX8_tune_200 (by decide)) ?_
          have e1 : ((x : Int) + 1) = ((x + 1 : Nat) : Int) := by omega
          have ef : tunF S (tvS S t) x = ansU (sL S) (iup (fT (sF S)) (36 * (tvS S t).2.2.1 + (x : Int)) (lG (sL S) (x : Int))) (fW (sF S)) 1 (tvS S t) := by unfold tunF; rw [if_neg c137]
          have hN3 := nrm_rput (r := 124 + 1) (n := 144) (i := (tvS S t).2.2.1 * 36 + (x : Int)) hK (tl_rng hI hF hL (d := (tvS S t).2.2.1) (x := (x : Int)) (by omega) (by omega))
          have hfr3 := frq_tr hfQ (fun r a => rput_nf (I := K) (r := 124 + 1) (n := 144) (i := (tvS S t).2.2.1 * 36 + (x : Int)) (x := fT (sF S) (36 * (tvS S t).2.2.1 + (x : Int))) (show r ≠ 124 + 1 + 1 by omega))
          have hF3 := frc_setTl hFK hLRK hL (by omega) (d := (tvS S t).2.2.1) (x := (x : Int)) (v := fT (sF S) (36 * (tvS S t).2.2.1 + (x : Int))) (u := fT (sF S) (36 * (tvS S t).2.2.1 + (x : Int))) (by omega) (by omega) (by rw [if_neg (by omega)])
          rw [setTl_back] at hF3
          have e2 : bst (tunF S (tvS S t)) (tun0 S (tvS S t)) (x + 1) = bst (tunF S (tvS S t)) (tun0 S (tvS S t)) x := by simp only [bst]; rw [ef, if_neg (by omega)]
          have h := ih (x + 1) _ (some (mi (fT (sF S) (36 * (tvS S t).2.2.1 + (x : Int))))) (some (mi (ansU (sL S) (iup (fT (sF S)) (36 * (tvS S t).2.2.1 + (x : Int)) (lG (sL S) (x : Int))) (fW (sF S)) 1 (tvS S t)))) (by omega) (by omega) (cs_q hC hS hN3 hfr3) hF3
          rw [e2] at h
          rw [e1]
          exact mRun.im h (fun v h => out_tr hfr3)
        · refine mRun.go (q_iload dX8_tune_182 rfl) ?_
          refine mRun.go (q_iload dX8_tune_184 rfl) ?_
          refine r_icmp_ge (tgt := 197) dX8_tune_186 (by decide) (by omega) (by omega) (fun c186 => ?_) (fun c186 => ?_)
          · refine mRun.go (q_iinc (ls' := [some (mr 0), some (mi t), some (mr (28 + 4 + t.toNat)), some (mi as), some (mi ((bst (tunF S (tvS S t)) (tun0 S (tvS S t)) x).2)), some (mi ((bst (tunF S (tvS S t)) (tun0 S (tvS S t)) x).1)), some (mi ((x : Int) + 1)), some (mi (fT (sF S) (36 * ((tvS S t).2.2.1) + (x : Int)))), some (mi (ansU (sL S) (iup (fT (sF S)) (36 * (tvS S t).2.2.1 + (x : Int)) (lG (sL S) (x : Int))) (fW (sF S)) 1 (tvS S t)))]) dX8_tune_197 rfl (Nat.le_of_ble_eq_true rfl) rfl) ?_
            refine mRun.go (q_goto (tgt := 78) dX8_tune_200 (by decide)) ?_
            have e1 : ((x : Int) + 1) = ((x + 1 : Nat) : Int) := by omega
            have ef : tunF S (tvS S t) x = ansU (sL S) (iup (fT (sF S)) (36 * (tvS S t).2.2.1 + (x : Int)) (lG (sL S) (x : Int))) (fW (sF S)) 1 (tvS S t) := by unfold tunF; rw [if_neg c137]
            have hN3 := nrm_rput (r := 124 + 1) (n := 144) (i := (tvS S t).2.2.1 * 36 + (x : Int)) hK (tl_rng hI hF hL (d := (tvS S t).2.2.1) (x := (x : Int)) (by omega) (by omega))
            have hfr3 := frq_tr hfQ (fun r a => rput_nf (I := K) (r := 124 + 1) (n := 144) (i := (tvS S t).2.2.1 * 36 + (x : Int)) (x := fT (sF S) (36 * (tvS S t).2.2.1 + (x : Int))) (show r ≠ 124 + 1 + 1 by omega))
            have hF3 := frc_setTl hFK hLRK hL (by omega) (d := (tvS S t).2.2.1) (x := (x : Int)) (v := fT (sF S) (36 * (tvS S t).2.2.1 + (x : Int))) (u := fT (sF S) (36 * (tvS S t).2.2.1 + (x : Int))) (by omega) (by omega) (by rw [if_neg (by omega)])
            rw [setTl_back] at hF3
            have e2 : bst (tunF S (tvS S t)) (tun0 S (tvS S t)) (x + 1) = bst (tunF S (tvS S t)) (tun0 S (tvS S t)) x := by simp only [bst]; rw [ef, if_neg (by omega)]
            have h := ih (x + 1) _ (some (mi (fT (sF S) (36 * (tvS S t).2.2.1 + (x : Int))))) (some (mi (ansU (sL S) (iup (fT (sF S)) (36 * (tvS S t).2.2.1 + (x : Int)) (lG (sL S) (x : Int))) (fW (sF S)) 1 (tvS S t)))) (by omega) (by omega) (cs_q hC hS hN3 hfr3) hF3
            rw [e2] at h
            rw [e1]
            exact mRun.im h (fun v h => out_tr hfr3)
          · refine mRun.go (q_iload dX8_tune_189 rfl) ?_
            refine mRun.go (q_istore (ls' := [some (mr 0), some (mi t), some (mr (28 + 4 + t.toNat)), some (mi as), some (mi (ansU (sL S) (iup (fT (sF S)) (36 * (tvS S t).2.2.1 + (x : Int)) (lG (sL S) (x : Int))) (fW (sF S)) 1 (tvS S t))), some (mi ((bst (tunF S (tvS S t)) (tun0 S (tvS S t)) x).1)), some (mi (x : Int)), some (mi (fT (sF S) (36 * ((tvS S t).2.2.1) + (x : Int)))), some (mi (ansU (sL S) (iup (fT (sF S)) (36 * (tvS S t).2.2.1 + (x : Int)) (lG (sL S) (x : Int))) (fW (sF S)) 1 (tvS S t)))]) dX8_tune_191 (Nat.le_of_ble_eq_true rfl) rfl) ?_
            refine mRun.go (q_iload dX8_tune_193 rfl) ?_
            refine mRun.go (q_istore (ls' := [some (mr 0), some (mi t), some (mr (28 + 4 + t.toNat)), some (mi as), some (mi (ansU (sL S) (iup (fT (sF S)) (36 * (tvS S t).2.2.1 + (x : Int)) (lG (sL S) (x : Int))) (fW (sF S)) 1 (tvS S t))), some (mi (x : Int)), some (mi (x : Int)), some (mi (fT (sF S) (36 * ((tvS S t).2.2.1) + (x : Int)))), some (mi (ansU (sL S) (iup (fT (sF S)) (36 * (tvS S t).2.2.1 + (x : Int)) (lG (sL S) (x : Int))) (fW (sF S)) 1 (tvS S t)))]) dX8_tune_195 (Nat.le_of_ble_eq_true rfl) rfl) ?_
            refine mRun.go (q_iinc (ls' := [some (mr 0), some (mi t), some (mr (28 + 4 + t.toNat)), some (mi as), some (mi (ansU (sL S) (iup (fT (sF S)) (36 * (tvS S t).2.2.1 + (x : Int)) (lG (sL S) (x : Int))) (fW (sF S)) 1 (tvS S t))), some (mi (x : Int)), some (mi ((x : Int) + 1)), some (mi (fT (sF S) (36 * ((tvS S t).2.2.1) + (x : Int)))), some (mi (ansU (sL S) (iup (fT (sF S)) (36 * (tvS S t).2.2.1 + (x : Int)) (lG (sL S) (x : Int))) (fW (sF S)) 1 (tvS S t)))]) dX8_tune_197 rfl (Nat.le_of_ble_eq_true rfl) rfl) ?_
            refine mRun.go (q_goto (tgt := 78) dX8_tune_200 (by decide)) ?_
            have e1 : ((x : Int) + 1) = ((x + 1 : Nat) : Int) := by omega
            have ef : tunF S (tvS S t) x = ansU (sL S) (iup (fT (sF S)) (36 * (tvS S t).2.2.1 + (x : Int)) (lG (sL S) (x : Int))) (fW (sF S)) 1 (tvS S t) := by unfold tunF; rw [if_neg c137]
            have hN3 := nrm_rput (r := 124 + 1) (n := 144) (i := (tvS S t).2.2.1 * 36 + (x : Int)) hK (tl_rng hI hF hL (d := (tvS S t).2.2.1) (x := (x : Int)) (by omega) (by omega))
            have hfr3 := frq_tr hfQ (fun r a => rput_nf (I := K) (r := 124 + 1) (n := 144) (i := (tvS S t).2.2.1 * 36 + (x : Int)) (x := fT (sF S) (36 * (tvS S t).2.2.1 + (x : Int))) (show r ≠ 124 + 1 + 1 by omega))
            have hF3 := frc_setTl hFK hLRK hL (by omega) (d := (tvS S t).2.2.1) (x := (x : Int)) (v := fT (sF S) (36 * (tvS S t).2.2.1 + (x : Int))) (u := fT (sF S) (36 * (tvS S t).2.2.1 + (x : Int))) (by omega) (by omega) (by rw [if_neg (by omega)])
            rw [setTl_back] at hF3
            have e2 : bst (tunF S (tvS S t)) (tun0 S (tvS S t)) (x + 1) = ((x : Int), ansU (sL S) (iup (fT (sF S)) (36 * (tvS S t).2.2.1 + (x : Int)) (lG (sL S) (x : Int))) (fW (sF S)) 1 (tvS S t)) := by simp only [bst]; rw [ef, if_pos ⟨by omega, by omega⟩]
            have h := ih (x + 1) _ (some (mi (fT (sF S) (36 * (tvS S t).2.2.1 + (x : Int))))) (some (mi (ansU (sL S) (iup (fT (sF S)) (36 * (tvS S t).2.2.1 + (x : Int)) (lG (sL S) (x : Int))) (fW (sF S)) 1 (tvS S t)))) (by omega) (by omega) (cs_q hC hS hN3 hfr3) hF3
            rw [e2] at h
            rw [e1]
            exact mRun.im h (fun v h => out_tr hfr3)
      · refine mRun.go (q_bipush dX8_tune_140 (by decide)) ?_
        refine mRun.go (q_goto (tgt := 158) dX8_tune_142 (by decide)) ?_
        refine mRun.go (q_istore (ls' := [some (mr 0), some (mi t), some (mr (28 + 4 + t.toNat)), some (mi as), some (mi ((bst (tunF S (tvS S t)) (tun0 S (tvS S t)) x).2)), some (mi ((bst (tunF S (tvS S t)) (tun0 S (tvS S t)) x).1)), some (mi (x : Int)), some (mi (fT (sF S) (36 * ((tvS S t).2.2.1) + (x : Int)))), some (mi (-4))]) dX8_tune_158 (Nat.le_of_ble_eq_true rfl) rfl) ?_
        refine mRun.go (q_aload_n dX8_tune_160 rfl rfl) ?_
        refine mRun.go (q_getR dX8_tune_161 fo_X8_59 hD.1 rfl) ?_
        refine mRun.go (q_aload_n dX8_tune_164 rfl rfl) ?_
        refine mRun.go (q_getE (x := (tvS S t).2.2.1) dX8_tune_165 fo_X8_159 ((dm_n hD).2.2.2 t.toNat (by omega)) rfl (by rw [rput_nf (by omega)]; show _ = (fV (sF S) t.toNat).2.2.1; rw [← hto.1]; rfl)) ?_
        refine mRun.go (q_iload dX8_tune_168 rfl) ?_
        refine mRun.go (q_iload dX8_tune_170 rfl) ?_
        refine mRun.go (q_callVv (r := 124) [mi ((tvS S t).2.2.1), mi (x : Int), mi (fT (sF S) (36 * ((tvS S t).2.2.1) + (x : Int)))] [] dX8_tune_172 co_X8_198 ⟨Nat.le_of_ble_eq_true rfl, Nat.le_of_ble_eq_true rfl⟩ gw_339 gw_340 rfl (dm_s hD).1 rfl rfl rfl (Nat.le_of_ble_eq_true rfl) (k_setTold (dm_s hD) hN1 (by omega) (by omega) (by omega))) ?_
        refine mRun.go (q_iload dX8_tune_175 rfl) ?_
        refine mRun.go (q_bipush dX8_tune_177 (by decide)) ?_
        refine r_icmp_eq (tgt := 197) dX8_tune_179 (by decide) (by omega) (by omega) (fun c179 => ?_) (fun c179 => ?_)
        · refine mRun.go (q_iinc (ls' := [some (mr 0), some (mi t), some (mr (28 + 4 + t.toNat)), some (mi as), some (mi ((bst (tunF S (tvS S t)) (tun0 S (tvS S t)) x).2)), some (mi ((bst (tunF S (tvS S t)) (tun0 S (tvS S t)) x).1)), some (mi ((x : Int) + 1)), some (mi (fT (sF S) (36 * ((tvS S t).2.2.1) + (x : Int)))), some (mi (-4))]) dX8_tune_197 rfl (Nat.le_of_ble_eq_true rfl) rfl) ?_
          refine mRun.go (q_goto (tgt := 78) dX8_tune_200 (by decide)) ?_
          have e1 : ((x : Int) + 1) = ((x + 1 : Nat) : Int) := by omega
          have ef : tunF S (tvS S t) x = -4 := by unfold tunF; rw [if_pos (Classical.not_not.mp c137)]
          have hN3 := nrm_rput (r := 124 + 1) (n := 144) (i := (tvS S t).2.2.1 * 36 + (x : Int)) hN1 (tl_rng hI hF hL (d := (tvS S t).2.2.1) (x := (x : Int)) (by omega) (by omega))
          have hfr3 := frq_tr hfr1 (fun r a => rput_nf (I := rput I (124 + 1) 144 ((tvS S t).2.2.1 * 36 + (x : Int)) (-1)) (r := 124 + 1) (n := 144) (i := (tvS S t).2.2.1 * 36 + (x : Int)) (x := fT (sF S) (36 * (tvS S t).2.2.1 + (x : Int))) (show r ≠ 124 + 1 + 1 by omega))
          have hF3 := frc_setTl hF1 hLR1 hL (by omega) (d := (tvS S t).2.2.1) (x := (x : Int)) (v := fT (sF S) (36 * (tvS S t).2.2.1 + (x : Int))) (u := fT (sF S) (36 * (tvS S t).2.2.1 + (x : Int))) (by omega) (by omega) (by rw [if_neg (by omega)])
          rw [setTl_back] at hF3
          have e2 : bst (tunF S (tvS S t)) (tun0 S (tvS S t)) (x + 1) = bst (tunF S (tvS S t)) (tun0 S (tvS S t)) x := by simp only [bst]; rw [ef, if_neg (by omega)]
          have h := ih (x + 1) _ (some (mi (fT (sF S) (36 * (tvS S t).2.2.1 + (x : Int))))) (some (mi ((-4)))) (by omega) (by omega) (cs_q hC hS hN3 hfr3) hF3
          rw [e2] at h
          rw [e1]
          exact mRun.im h (fun v h => out_tr hfr3)
        · refine mRun.go (q_iload dX8_tune_182 rfl) ?_
          refine mRun.go (q_iload dX8_tune_184 rfl) ?_
          refine r_icmp_ge (tgt := 197) dX8_tune_186 (by decide) (by omega) (by omega) (fun c186 => ?_) (fun c186 => ?_)
          · refine mRun.go (q_iinc (ls' := [some (mr 0), some (mi t), some (mr (28 + 4 + t.toNat)), some (mi as), some (mi ((bst (tunF S (tvS S t)) (tun0 S (tvS S t)) x).2)), some (mi ((bst (tunF S (tvS S t)) (tun0 S (tvS S t)) x).1)), some (mi ((x : Int) + 1)), some (mi (fT (sF S) (36 * ((tvS S t).2.2.1) + (x : Int)))), some (mi (-4))]) dX8_tune_197 rfl (Nat.le_of_ble_eq_true rfl) rfl) ?_
            refine mRun.go (q_goto (tgt := 78) dX8_tune_200 (by decide)) ?_
            have e1 : ((x : Int) + 1) = ((x + 1 : Nat) : Int) := by omega
            have ef : tunF S (tvS S t) x = -4 := by unfold tunF; rw [if_pos (Classical.not_not.mp c137)]
            have hN3 := nrm_rput (r := 124 + 1) (n := 144) (i := (tvS S t).2.2.1 * 36 + (x : Int)) hN1 (tl_rng hI hF hL (d := (tvS S t).2.2.1) (x := (x : Int)) (by omega) (by omega))
            have hfr3 := frq_tr hfr1 (fun r a => rput_nf (I := rput I (124 + 1) 144 ((tvS S t).2.2.1 * 36 + (x : Int)) (-1)) (r := 124 + 1) (n := 144) (i := (tvS S t).2.2.1 * 36 + (x : Int)) (x := fT (sF S) (36 * (tvS S t).2.2.1 + (x : Int))) (show r ≠ 124 + 1 + 1 by omega))
            have hF3 := frc_setTl hF1 hLR1 hL (by omega) (d := (tvS S t).2.2.1) (x := (x : Int)) (v := fT (sF S) (36 * (tvS S t).2.2.1 + (x : Int))) (u := fT (sF S) (36 * (tvS S t).2.2.1 + (x : Int))) (by omega) (by omega) (by rw [if_neg (by omega)])
            rw [setTl_back] at hF3
            have e2 : bst (tunF S (tvS S t)) (tun0 S (tvS S t)) (x + 1) = bst (tunF S (tvS S t)) (tun0 S (tvS S t)) x := by simp only [bst]; rw [ef, if_neg (by omega)]
            have h := ih (x + 1) _ (some (mi (fT (sF S) (36 * (tvS S t).2.2.1 + (x : Int))))) (some (mi ((-4)))) (by omega) (by omega) (cs_q hC hS hN3 hfr3) hF3
            rw [e2] at h
            rw [e1]
            exact mRun.im h (fun v h => out_tr hfr3)
          · refine mRun.go (q_iload dX8_tune_189 rfl) ?_
            refine mRun.go (q_istore (ls' := [some (mr 0), some (mi t), some (mr (28 + 4 + t.toNat)), some (mi as), some (mi (-4)), some (mi ((bst (tunF S (tvS S t)) (tun0 S (tvS S t)) x).1)), some (mi (x : Int)), some (mi (fT (sF S) (36 * ((tvS S t).2.2.1) + (x : Int)))), some (mi (-4))]) dX8_tune_191 (Nat.le_of_ble_eq_true rfl) rfl) ?_
            refine mRun.go (q_iload dX8_tune_193 rfl) ?_
            refine mRun.go (q_istore (ls' := [some (mr 0), some (mi t), some (mr (28 + 4 + t.toNat)), some (mi as), some (mi (-4)), some (mi (x : Int)), some (mi (x : Int)), some (mi (fT (sF S) (36 * ((tvS S t).2.2.1) + (x : Int)))), some (mi (-4))]) dX8_tune_195 (Nat.le_of_ble_eq_true rfl) rfl) ?_
            refine mRun.go (q_iinc (ls' := [some (mr 0), some (mi t), some (mr (28 + 4 + t.toNat)), some (mi as), some (mi (-4)), some (mi (x : Int)), some (mi ((x : Int) + 1)), some (mi (fT (sF S) (36 * ((tvS S t).2.2.1) + (x : Int)))), some (mi (-4))]) dX8_tune_197 rfl (Nat.le_of_ble_eq_true rfl) rfl) ?_
            refine mRun.go (q_goto (tgt := 78) dX8_tune_200 (by decide)) ?_
            have e1 : ((x : Int) + 1) = ((x + 1 : Nat) : Int) := by omega
            have ef : tunF S (tvS S t) x = -4 := by unfold tunF; rw [if_pos (Classical.not_not.mp c137)]
            have hN3 := nrm_rput (r := 124 + 1) (n := 144) (i := (tvS S t).2.2.1 * 36 + (x : Int)) hN1 (tl_rng hI hF hL (d := (tvS S t).2.2.1) (x := (x : Int)) (by omega) (by omega))
            have hfr3 := frq_tr hfr1 (fun r a => rput_nf (I := rput I (124 + 1) 144 ((tvS S t).2.2.1 * 36 + (x : Int)) (-1)) (r := 124 + 1) (n := 144) (i := (tvS S t).2.2.1 * 36 + (x : Int)) (x := fT (sF S) (36 * (tvS S t).2.2.1 + (x : Int))) (show r ≠ 124 + 1 + 1 by omega))
            have hF3 := frc_setTl hF1 hLR1 hL (by omega) (d := (tvS S t).2.2.1) (x := (x : Int)) (v := fT (sF S) (36 * (tvS S t).2.2.1 + (x : Int))) (u := fT (sF S) (36 * (tvS S t).2.2.1 + (x : Int))) (by omega) (by omega) (by rw [if_neg (by omega)])
            rw [setTl_back] at hF3
            have e2 : bst (tunF S (tvS S t)) (tun0 S (tvS S t)) (x + 1) = ((x : Int), (-4)) := by simp only [bst]; rw [ef, if_pos ⟨by omega, by omega⟩]
            have h := ih (x + 1) _ (some (mi (fT (sF S) (36 * (tvS S t).2.2.1 + (x : Int))))) (some (mi ((-4)))) (by omega) (by omega) (cs_q hC hS hN3 hfr3) hF3
            rw [e2] at h
            rw [e1]
            exact mRun.im h (fun v h => out_tr hfr3)

theorem fcp_at {I : mI} {f g r k : Nat} (h : (r = f ∧ (k = 2 ∨ k = 3)) ∨ (r = f + 1 + 1 ∧ k < 144) ∨ (f + 4 ≤ r ∧ r ≤ f + 7 ∧ k < 6)) : fcp I f g r k = I (g + (r - f)) k := by
  unfold fcp
  rw [if_pos ⟨by omega, h⟩]
theorem frc_cp {I : mI} {f g : Nat} {L : Ld} {F : Fs} (h : FRC I g L F) (hL : LdOk L) (hf : f + 8 ≤ 21 ∨ 28 ≤ f) (hg : g + 8 ≤ 21 ∨ 28 ≤ g) : FRC (fcp I f g) f L F := by
  have hdr := hL.2.2.1
  have hpr := lp_rng hL
  have hnt := hL.2.2.2.1
  refine ⟨?_, ?_, fun d x a b c e => ?_, fun t ht => ?_⟩
  · rw [fcp_at (by omega), show g + (f - f) = g by omega]; exact h.1
  · rw [fcp_at (by omega), show g + (f - f) = g by omega]; exact h.2.1
  · rw [← h.2.2.1 d x a b c e]
    have e1 : rat (fcp I f g) (f + 1) 144 (d * 36 + x) = rat I (g + 1) 144 (d * 36 + x) := by
      rw [rat_nat (k := (d * 36 + x).toNat) (by omega) (by omega), rat_nat (k := (d * 36 + x).toNat) (by omega) (by omega), fcp_at (by omega), show g + (f + 1 + 1 - f) = g + 1 + 1 by omega]
    unfold tel
    rw [e1, rat_fr (I := I) (fcp_fr (by omega))]
  · have e1 : tget (fcp I f g) (f + 4 + t) = tget I (g + 4 + t) := by
      simp only [tget]
      rw [fcp_at (by omega), fcp_at (by omega), fcp_at (by omega), fcp_at (by omega), fcp_at (by omega), fcp_at (by omega), show g + (f + 4 + t - f) = g + 4 + t by omega]
    rw [e1]
    exact h.2.2.2 t ht

set_option maxRecDepth 100000 in
theorem f_tune {σ : List mC} {I : mI} {S : Sx} {B : Int} {t : Int} (hC : CS σ I S) (hS : SxOk B S) (ht : -2147483648 ≤ t ∧ t < 2147483648) : mMt mX8_tune [mr 0, mi t] (σ, I) (Out σ I S (a_tune S t)) := by
  refine mMt.of pl_8 (Nat.le_of_ble_eq_true rfl) ?_
  show mRun mZt mX8_tune 0 [some (mr 0), some (mi t), none, none, none, none, none, none, none] [] (σ, I) _
  obtain ⟨q, hq1, hq2, hU, hq4⟩ := hC.2.2.1
  have hI := hC.1
  have hD := hC.2.1
  have hL := hS.1
  have hT := hC.2.2.2.1
  have hLR := hC.2.2.2.2.1
  have hF := hC.2.2.2.2.2.1
  have hpr := lp_rng hL
  have hqe := lq_eq hL
  have hwr := hL.2.1
  have hdr := hL.2.2.1
  have hnt := hL.2.2.2.1
  have hwF := hS.2.1.1
  have hhF := hS.2.1.2.1
  have hH8 := hS.2.2.2.2.2.2.1
  have hU8 := hS.2.2.1
  have hK2 := hS.2.2.2.2.1
  have hLn := hS.2.2.2.2.2.2.2.2
  refine mRun.go (q_aload_n dX8_tune_0 rfl rfl) ?_
  refine mRun.go (q_getR dX8_tune_1 fo_X8_26 hD.1 rfl) ?_
  refine mRun.go (q_iload_n dX8_tune_4 rfl rfl) ?_
  have hh5 := @k_hasTrv σ I 21 t (dm_l hD) hI ht
  rw [hLR.2.2.2.1] at hh5
  refine mRun.go (q_callVi (r := 21) [mi t] [] dX8_tune_5 co_X8_146 ⟨Nat.le_of_ble_eq_true rfl, Nat.le_of_ble_eq_true rfl⟩ gw_489 gw_490 rfl (dm_l hD).1 rfl rfl rfl (Nat.le_of_ble_eq_true rfl) hh5) ?_
  refine r_if_ne (tgt := 13) dX8_tune_8 (by decide) (by split <;> omega) (fun c8 => ?_) (fun c8 => ?_)
  · have h8 := ite01 c8
    refine mRun.go (q_aload_n dX8_tune_13 rfl rfl) ?_
    refine mRun.go (q_getR dX8_tune_14 fo_X8_33 hD.1 rfl) ?_
    refine mRun.go (q_iload_n dX8_tune_17 rfl rfl) ?_
    refine mRun.go (q_callVi (r := 28) [mi t] [] dX8_tune_18 co_X8_149 ⟨Nat.le_of_ble_eq_true rfl, Nat.le_of_ble_eq_true rfl⟩ gw_348 gw_349 rfl (dm_n hD).1 rfl rfl rfl (Nat.le_of_ble_eq_true rfl) (k_who (dm_n hD) (by omega))) ?_
    refine mRun.go (q_astore_n (ls' := [some (mr 0), some (mi t), some (mr (28 + 4 + t.toNat)), none, none, none, none, none, none]) dX8_tune_21 rfl (Nat.le_of_ble_eq_true rfl) rfl) ?_
    refine mRun.go (q_aload_n dX8_tune_22 rfl rfl) ?_
    refine mRun.go (q_getE (x := (tget I (28 + 4 + t.toNat)).2.2.2.1) dX8_tune_23 fo_X8_162 ((dm_n hD).2.2.2 t.toNat (by omega)) rfl rfl) ?_
    refine r_if_eq (tgt := 32) dX8_tune_26 (by decide) (hI _ _) (fun c26 => ?_) (fun c26 => ?_)
    · have hto := hF.2.2.2 t.toNat (by omega)
      have htm := hS.2.1.2.2.2 t.toNat (by omega)
      have hdd : 0 ≤ (tvS S t).2.2.1 ∧ (tvS S t).2.2.1 < lD (sL S) := htm.2.2.1
      have har := @anS_rng S 1 (tvS S t)
      refine mRun.go (q_aload_n dX8_tune_32 rfl rfl) ?_
      refine mRun.go (q_aload_n dX8_tune_33 rfl rfl) ?_
      refine mRun.go (q_getR dX8_tune_34 fo_X8_33 hD.1 rfl) ?_
      refine mRun.go (q_aload_n dX8_tune_37 rfl rfl) ?_
      refine mRun.go (q_aload_n dX8_tune_38 rfl rfl) ?_
      refine mRun.go (q_getE (x := (tvS S t).2.2.1) dX8_tune_39 fo_X8_159 ((dm_n hD).2.2.2 t.toNat (by omega)) rfl (by show _ = (fV (sF S) t.toNat).2.2.1; rw [← (hF.2.2.2 t.toNat (by omega)).1]; rfl)) ?_
      obtain ⟨v0, h0, hc0, rfl, K, rfl, hK, hfK⟩ := k_toArrive (r := 28 + 4 + t.toNat) (d := (tvS S t).2.2.1) hI hD hL hLR (dm_n hD) hF (Or.inl rfl) hwF ((dm_n hD).2.2.2 t.toNat (by omega)) (by omega) hto.2 (by omega)
      rw [hto.1] at hc0
      have hfQ : FrQ I K := fun r a => hfK r (by omega) (by omega)
      refine mRun.go (q_callVi (r := 0) [mr 28, mr (28 + 4 + t.toNat), mi ((tvS S t).2.2.1)] [] dX8_tune_42 co_X8_228 ⟨Nat.le_of_ble_eq_true rfl, Nat.le_of_ble_eq_true rfl⟩ gw_634 gs_17 rfl hD.1 rfl rfl rfl (Nat.le_of_ble_eq_true rfl) hc0) ?_
      refine mRun.go (q_istore_n (ls' := [some (mr 0), some (mi t), some (mr (28 + 4 + t.toNat)), some (mi (anS S 1 (tvS S t))), none, none, none, none, none]) dX8_tune_45 rfl (Nat.le_of_ble_eq_true rfl) rfl) ?_
      refine mRun.go (q_iload_n dX8_tune_46 rfl rfl) ?_
      refine mRun.go (q_bipush dX8_tune_47 (by decide)) ?_
      have j49 : ∀ {post : Option mV → mH → Prop}, mRun mZt mX8_tune 58 [some (mr 0), some (mi t), some (mr (28 + 4 + t.toNat)), some (mi (anS S 1 (tvS S t))), none, none, none, none, none] [mi (tun0 S (tvS S t))] (σ, K) post → mRun mZt mX8_tune 49 [some (mr 0), some (mi t), some (mr (28 + 4 + t.toNat)), some (mi (anS S 1 (tvS S t))), none, none, none, none, none] [mi (-4), mi (anS S 1 (tvS S t))] (σ, K) post := by
        intro post k
        refine r_icmp_ne (tgt := 57) dX8_tune_49 (by decide) (by omega) (by omega) (fun c49 => ?_) (fun c49 => ?_)
        · refine mRun.go (q_iload_n dX8_tune_57 rfl rfl) ?_
          first | (unfold tun0 at k; rw [if_pos (Classical.not_not.mp c49)] at k; exact k) | (unfold tun0 at k; rw [if_neg c49] at k; exact k)
        · refine mRun.go (q_ldc (a := 1000000) dX8_tune_52 gw_509) ?_
          refine mRun.go (q_goto (tgt := 58) dX8_tune_54 (by decide)) ?_
          first | (unfold tun0 at k; rw [if_pos (Classical.not_not.mp c49)] at k; exact k) | (unfold tun0 at k; rw [if_neg c49] at k; exact k)
      refine j49 ?_
      refine mRun.go (q_istore (ls' := [some (mr 0), some (mi t), some (mr (28 + 4 + t.toNat)), some (mi (anS S 1 (tvS S t))), some (mi (tun0 S (tvS S t))), none, none, none, none]) dX8_tune_58 (Nat.le_of_ble_eq_true rfl) rfl) ?_
      refine mRun.go (q_bipush dX8_tune_60 (by decide)) ?_
      refine mRun.go (q_istore (ls' := [some (mr 0), some (mi t), some (mr (28 + 4 + t.toNat)), some (mi (anS S 1 (tvS S t))), some (mi (tun0 S (tvS S t))), some (mi (-4)), none, none, none]) dX8_tune_62 (Nat.le_of_ble_eq_true rfl) rfl) ?_
      refine mRun.go (q_aload_n dX8_tune_64 rfl rfl) ?_
      refine mRun.go (q_getR dX8_tune_65 fo_X8_59 hD.1 rfl) ?_
      refine mRun.go (q_aload_n dX8_tune_68 rfl rfl) ?_
      refine mRun.go (q_getR dX8_tune_69 fo_X8_33 hD.1 rfl) ?_
      refine mRun.go (q_callVv (r := 124) [mr 28] [] dX8_tune_72 co_X8_232 ⟨Nat.le_of_ble_eq_true rfl, Nat.le_of_ble_eq_true rfl⟩ gw_386 gw_387 rfl (dm_s hD).1 rfl rfl rfl (Nat.le_of_ble_eq_true rfl) (k_fcopy (dm_s hD) (dm_n hD) hK (by decide))) ?_
      refine mRun.go (q_iconst dX8_tune_75) ?_
      refine mRun.go (q_istore (ls' := [some (mr 0), some (mi t), some (mr (28 + 4 + t.toNat)), some (mi (anS S 1 (tvS S t))), some (mi (tun0 S (tvS S t))), some (mi (-4)), some (mi 0), none, none]) dX8_tune_76 (Nat.le_of_ble_eq_true rfl) rfl) ?_
      have e : a_tune S t = (bst (tunF S (tvS S t)) (tun0 S (tvS S t)) (lQ (sL S))).1 := by
        simp only [a_tune, isT]
        rw [if_pos (by omega), if_pos (show (fV (sF S) t.toNat).2.2.2.1 = 0 from by rw [← hto.1]; exact c26)]
      rw [e]
      have hCK := cs_q hC hS hK hfQ
      have hfr4 : FrQ I (fcp K 124 28) := frq_tr hfQ (fun r a => fcp_fr (by omega))
      refine mRun.im (f_tune_loop hS (by omega) (lQ (sL S) + 1) 0 (fcp K 124 28) none none (by omega) (by omega) (cs_q hC hS (nrm_fcp hK) hfr4) (frc_cp hCK.2.2.2.2.2.1 hL (by decide) (by decide))) (fun v h => out_tr hfr4)
    · refine mRun.go (q_bipush dX8_tune_29 (by decide)) ?_
      refine r_iret dX8_tune_31 rfl ?_
      have e : a_tune S t = (-2) := by
        simp only [a_tune, isT]
        have hto := hF.2.2.2 t.toNat (by omega)
        rw [if_pos (by omega), if_neg (show ¬ (fV (sF S) t.toNat).2.2.2.1 = 0 from by rw [← hto.1]; exact c26)]
      rw [e]
      exact out_q hC hS hI frq_rf
  · have h8 := ite00 (Classical.not_not.mp c8)
    refine mRun.go (q_iconst dX8_tune_11) ?_
    refine r_iret dX8_tune_12 rfl ?_
    have e : a_tune S t = (-1) := by
      simp only [a_tune, isT]
      rw [if_neg (by omega)]
    rw [e]
    exact out_q hC hS hI frq_rf

set_option maxRecDepth 100000 in
theorem f_clash_loop {σ : List mC} {I : mI} {S : Sx} {B d e v : Int} (hS : SxOk B S) (hC : CS σ I S) (hd : isD S d) (he : isD S e) (hv : 0 ≤ v ∧ v ≤ 1) : ∀ (n x : Nat), lQ (sL S) - x < n → x ≤ lQ (sL S) → mRun mZt mX8_clash 48 [some (mr 0), some (mi d), some (mi e), some (mi v), some (mi (cntB (clB S d e) x)), some (mi (lowB (clB S d e) x)), some (mi (x : Int))] [] (σ, I) (Out σ I S (if v = 0 then cntB (clB S d e) (lQ (sL S)) else lowB (clB S d e) (lQ (sL S)))) := by
  intro n
  induction n with
  | zero => intro x h; omega
  | succ n ih =>
    intro x hn hx0
    obtain ⟨q, hq1, hq2, hU, hq4⟩ := hC.2.2.1
    have hI := hC.1
    have hD := hC.2.1
    have hL := hS.1
    have hT := hC.2.2.2.1
    have hLR := hC.2.2.2.2.1
    have hF := hC.2.2.2.2.2.1
    have hpr := lp_rng hL
    have hqe := lq_eq hL
    have hwr := hL.2.1
    have hdr := hL.2.2.1
    have hnt := hL.2.2.2.1
    have hwF := hS.2.1.1
    have hhF := hS.2.1.2.1
    have hH8 := hS.2.2.2.2.2.2.1
    have hU8 := hS.2.2.1
    have hK2 := hS.2.2.2.2.1
    have hLn := hS.2.2.2.2.2.2.2.2
    have hd : 0 ≤ d ∧ d < lD (sL S) := hd
    have he : 0 ≤ e ∧ e < lD (sL S) := he
    have hb := cntB_rng (clB S d e) x
    have hb2 := lowB_rng (clB S d e) x
    refine mRun.go (q_iload dX8_clash_48 rfl) ?_
    refine mRun.go (q_aload_n dX8_clash_50 rfl rfl) ?_
    refine mRun.go (q_getR dX8_clash_51 fo_X8_26 hD.1 rfl) ?_
    refine mRun.go (q_getE (x := lP (sL S)) dX8_clash_54 fo_X8_113 (dm_l hD).1 rfl hLR.1) ?_
    refine r_icmp_ge (tgt := 116) dX8_clash_57 (by decide) (by omega) (by omega) (fun c57 => ?_) (fun c57 => ?_)
    · refine mRun.go (q_iload_n dX8_clash_116 rfl rfl) ?_
      refine r_if_ne (tgt := 125) dX8_clash_117 (by decide) (by omega) (fun c117 => ?_) (fun c117 => ?_)
      · refine mRun.go (q_iload dX8_clash_125 rfl) ?_
        refine r_iret dX8_clash_127 rfl ?_
        have hxe : x = lQ (sL S) := by omega
        subst hxe
        rw [if_neg c117]
        exact out_q hC hS hI frq_rf
      · refine mRun.go (q_iload dX8_clash_120 rfl) ?_
        refine mRun.go (q_goto (tgt := 127) dX8_clash_122 (by decide)) ?_
        refine r_iret dX8_clash_127 rfl ?_
        have hxe : x = lQ (sL S) := by omega
        subst hxe
        rw [if_pos (Classical.not_not.mp c117)]
        exact out_q hC hS hI frq_rf
    · refine mRun.go (q_aload_n dX8_clash_60 rfl rfl) ?_
      refine mRun.go (q_getR dX8_clash_61 fo_X8_33 hD.1 rfl) ?_
      refine mRun.go (q_aload_n dX8_clash_64 rfl rfl) ?_
      refine mRun.go (q_getR dX8_clash_65 fo_X8_26 hD.1 rfl) ?_
      refine mRun.go (q_iload_n dX8_clash_68 rfl rfl) ?_
      refine mRun.go (q_iload dX8_clash_69 rfl) ?_
      refine mRun.go (q_callVi (r := 28) [mr 21, mi d, mi (x : Int)] [] dX8_clash_71 co_X8_129 ⟨Nat.le_of_ble_eq_true rfl, Nat.le_of_ble_eq_true rfl⟩ gw_468 gw_469 rfl (dm_n hD).1 rfl rfl rfl (Nat.le_of_ble_eq_true rfl) (k_tellsF hI (dm_n hD) hD hL hLR hF (by omega) (by omega))) ?_
      refine mRun.go (q_aload_n dX8_clash_74 rfl rfl) ?_
      refine mRun.go (q_getR dX8_clash_75 fo_X8_33 hD.1 rfl) ?_
      refine mRun.go (q_aload_n dX8_clash_78 rfl rfl) ?_
      refine mRun.go (q_getR dX8_clash_79 fo_X8_26 hD.1 rfl) ?_
      refine mRun.go (q_iload_n dX8_clash_82 rfl rfl) ?_
      refine mRun.go (q_iload dX8_clash_83 rfl) ?_
      refine mRun.go (q_callVi (r := 28) [mr 21, mi e, mi (x : Int)] [mi (fT (sF S) (36 * d + (x : Int)))] dX8_clash_85 co_X8_129 ⟨Nat.le_of_ble_eq_true rfl, Nat.le_of_ble_eq_true rfl⟩ gw_468 gw_469 rfl (dm_n hD).1 rfl rfl rfl (Nat.le_of_ble_eq_true rfl) (k_tellsF hI (dm_n hD) hD hL hLR hF (by omega) (by omega))) ?_
      refine r_icmp_eq (tgt := 110) dX8_clash_88 (by decide) (tl_rng hI hF hL (by omega) (by omega)) (tl_rng hI hF hL (by omega) (by omega)) (fun c88 => ?_) (fun c88 => ?_)
      · refine mRun.go (q_iinc (ls' := [some (mr 0), some (mi d), some (mi e), some (mi v), some (mi (cntB (clB S d e) x)), some (mi (lowB (clB S d e) x)), some (mi ((x : Int) + 1))]) dX8_clash_110 rfl (Nat.le_of_ble_eq_true rfl) rfl) ?_
        refine mRun.go (q_goto (tgt := 48) dX8_clash_113 (by decide)) ?_
        have e1 : ((x : Int) + 1) = ((x + 1 : Nat) : Int) := by omega
        have ec : ¬ clB S d e x = true := fun q => (of_decide_eq_true q) c88
        have e2 : cntB (clB S d e) (x + 1) = cntB (clB S d e) x := by simp only [cntB]; rw [if_neg ec, Int.add_zero]
        have e3 : lowB (clB S d e) (x + 1) = lowB (clB S d e) x := by simp only [lowB]; rw [if_neg (fun q => ec q.2)]
        have h := ih (x + 1) (by omega) (by omega)
        rw [e2, e3] at h
        rw [e1]
        exact h
      · refine mRun.go (q_iinc (ls' := [some (mr 0), some (mi d), some (mi e), some (mi v), some (mi ((cntB (clB S d e) x) + 1)), some (mi (lowB (clB S d e) x)), some (mi (x : Int))]) dX8_clash_91 rfl (Nat.le_of_ble_eq_true rfl) rfl) ?_
        refine mRun.go (q_iload dX8_clash_94 rfl) ?_
        refine mRun.go (q_bipush dX8_clash_96 (by decide)) ?_
        refine r_icmp_ne (tgt := 106) dX8_clash_98 (by decide) (by omega) (by omega) (fun c98 => ?_) (fun c98 => ?_)
        · refine mRun.go (q_iload dX8_clash_106 rfl) ?_
          refine mRun.go (q_istore (ls' := [some (mr 0), some (mi d), some (mi e), some (mi v), some (mi ((cntB (clB S d e) x) + 1)), some (mi (lowB (clB S d e) x)), some (mi (x : Int))]) dX8_clash_108 (Nat.le_of_ble_eq_true rfl) rfl) ?_
          refine mRun.go (q_iinc (ls' := [some (mr 0), some (mi d), some (mi e), some (mi v), some (mi ((cntB (clB S d e) x) + 1)), some (mi (lowB (clB S d e) x)), some (mi ((x : Int) + 1))]) dX8_clash_110 rfl (Nat.le_of_ble_eq_true rfl) rfl) ?_
          refine mRun.go (q_goto (tgt := 48) dX8_clash_113 (by decide)) ?_
          have e1 : ((x : Int) + 1) = ((x + 1 : Nat) : Int) := by omega
          have ec : clB S d e x = true := decide_eq_true c88
          have e2 : cntB (clB S d e) (x + 1) = cntB (clB S d e) x + 1 := by simp only [cntB]; rw [if_pos ec]
          have e3 : lowB (clB S d e) (x + 1) = lowB (clB S d e) x := by simp only [lowB]; rw [if_neg (fun q => c98 q.1)]
          have h := ih (x + 1) (by omega) (by omega)
          rw [e2, e3] at h
          rw [e1]
          exact h
        · refine mRun.go (q_iload dX8_clash_101 rfl) ?_
          refine mRun.go (q_goto (tgt := 108) dX8_clash_103 (by decide)) ?_
          refine mRun.go (q_istore (ls' := [some (mr 0), some (mi d), some (mi e), some (mi v), some (mi ((cntB (clB S d e) x) + 1)), some (mi (x : Int)), some (mi (x : Int))]) dX8_clash_108 (Nat.le_of_ble_eq_true rfl) rfl) ?_
          refine mRun.go (q_iinc (ls' := [some (mr 0), some (mi d), some (mi e), some (mi v), some (mi ((cntB (clB S d e) x) + 1)), some (mi (x : Int)), some (mi ((x : Int) + 1))]) dX8_clash_110 rfl (Nat.le_of_ble_eq_true rfl) rfl) ?_
          refine mRun.go (q_goto (tgt := 48) dX8_clash_113 (by decide)) ?_
          have e1 : ((x : Int) + 1) = ((x + 1 : Nat) : Int) := by omega
          have ec : clB S d e x = true := decide_eq_true c88
          have e2 : cntB (clB S d e) (x + 1) = cntB (clB S d e) x + 1 := by simp only [cntB]; rw [if_pos ec]
          have e3 : lowB (clB S d e) (x + 1) = (x : Int) := by simp only [lowB]; rw [if_pos ⟨Classical.not_not.mp c98, ec⟩]
          have h := ih (x + 1) (by omega) (by omega)
          rw [e2, e3] at h
          rw [e1]
          exact h

set_option maxRecDepth 100000 in
theorem f_clash {σ : List mC} {I : mI} {S : Sx} {B : Int} {d e v : Int} (hC : CS σ I S) (hS : SxOk B S) (hd : -2147483648 ≤ d ∧ d < 2147483648) (he : -2147483648 ≤ e ∧ e < 2147483648) (hv : -2147483648 ≤ v ∧ v < 2147483648) : mMt mX8_clash [mr 0, mi d, mi e, mi v] (σ, I) (Out σ I S (a_clash S d e v)) := by
  refine mMt.of pl_8 (Nat.le_of_ble_eq_true rfl) ?_
  show mRun mZt mX8_clash 0 [some (mr 0), some (mi d), some (mi e), some (mi v), none, none, none] [] (σ, I) _
  obtain ⟨q, hq1, hq2, hU, hq4⟩ := hC.2.2.1
  have hI := hC.1
  have hD := hC.2.1
  have hL := hS.1
  have hT := hC.2.2.2.1
  have hLR := hC.2.2.2.2.1
  have hF := hC.2.2.2.2.2.1
  have hpr := lp_rng hL
  have hqe := lq_eq hL
  have hwr := hL.2.1
  have hdr := hL.2.2.1
  have hnt := hL.2.2.2.1
  have hwF := hS.2.1.1
  have hhF := hS.2.1.2.1
  have hH8 := hS.2.2.2.2.2.2.1
  have hU8 := hS.2.2.1
  have hK2 := hS.2.2.2.2.1
  have hLn := hS.2.2.2.2.2.2.2.2
  refine mRun.go (q_aload_n dX8_clash_0 rfl rfl) ?_
  refine mRun.go (q_getR dX8_clash_1 fo_X8_26 hD.1 rfl) ?_
  refine mRun.go (q_iload_n dX8_clash_4 rfl rfl) ?_
  have hh5 := @k_hasDrum σ I 21 d (dm_l hD) hI hd
  rw [hLR.2.2.1] at hh5
  refine mRun.go (q_callVi (r := 21) [mi d] [] dX8_clash_5 co_X8_126 ⟨Nat.le_of_ble_eq_true rfl, Nat.le_of_ble_eq_true rfl⟩ gw_331 gw_332 rfl (dm_l hD).1 rfl rfl rfl (Nat.le_of_ble_eq_true rfl) hh5) ?_
  refine r_if_eq (tgt := 36) dX8_clash_8 (by decide) (by split <;> omega) (fun c8 => ?_) (fun c8 => ?_)
  · have h8 := ite00 c8
    refine mRun.go (q_iconst dX8_clash_36) ?_
    refine r_iret dX8_clash_37 rfl ?_
    have e0 : a_clash S d e v = (-1) := by simp only [a_clash, isD]; rw [if_neg (by omega)]
    rw [e0]
    exact out_q hC hS hI frq_rf
  · have h8 := ite01 c8
    refine mRun.go (q_aload_n dX8_clash_11 rfl rfl) ?_
    refine mRun.go (q_getR dX8_clash_12 fo_X8_26 hD.1 rfl) ?_
    refine mRun.go (q_iload_n dX8_clash_15 rfl rfl) ?_
    have hh16 := @k_hasDrum σ I 21 e (dm_l hD) hI he
    rw [hLR.2.2.1] at hh16
    refine mRun.go (q_callVi (r := 21) [mi e] [] dX8_clash_16 co_X8_126 ⟨Nat.le_of_ble_eq_true rfl, Nat.le_of_ble_eq_true rfl⟩ gw_331 gw_332 rfl (dm_l hD).1 rfl rfl rfl (Nat.le_of_ble_eq_true rfl) hh16) ?_
    refine r_if_eq (tgt := 36) dX8_clash_19 (by decide) (by split <;> omega) (fun c19 => ?_) (fun c19 => ?_)
    · have h19 := ite00 c19
      refine mRun.go (q_iconst dX8_clash_36) ?_
      refine r_iret dX8_clash_37 rfl ?_
      have e0 : a_clash S d e v = (-1) := by simp only [a_clash, isD]; rw [if_neg (by omega)]
      rw [e0]
      exact out_q hC hS hI frq_rf
    · have h19 := ite01 c19
      refine mRun.go (q_iload_n dX8_clash_22 rfl rfl) ?_
      refine mRun.go (q_iload_n dX8_clash_23 rfl rfl) ?_
      refine r_icmp_eq (tgt := 36) dX8_clash_24 (by decide) hd he (fun c24 => ?_) (fun c24 => ?_)
      · refine mRun.go (q_iconst dX8_clash_36) ?_
        refine r_iret dX8_clash_37 rfl ?_
        have e0 : a_clash S d e v = (-1) := by simp only [a_clash, isD]; rw [if_neg (by omega)]
        rw [e0]
        exact out_q hC hS hI frq_rf
      · refine mRun.go (q_iload_n dX8_clash_27 rfl rfl) ?_
        refine mRun.go (q_iconst dX8_clash_28) ?_
        refine mRun.go (q_iconst dX8_clash_29) ?_
        refine mRun.go (q_callSi [mi v, mi 0, mi 1] [] dX8_clash_30 co_X8_105 ⟨Nat.le_of_ble_eq_true rfl, Nat.le_of_ble_eq_true rfl⟩ gw_308 rfl rfl (Nat.le_of_ble_eq_true rfl) (k_within hv (by omega) (by omega))) ?_
        refine r_if_ne (tgt := 38) dX8_clash_33 (by decide) (by split <;> omega) (fun c33 => ?_) (fun c33 => ?_)
        · have h33 := ite01 c33
          refine mRun.go (q_iconst dX8_clash_38) ?_
          refine mRun.go (q_istore (ls' := [some (mr 0), some (mi d), some (mi e), some (mi v), some (mi 0), none, none]) dX8_clash_39 (Nat.le_of_ble_eq_true rfl) rfl) ?_
          refine mRun.go (q_bipush dX8_clash_41 (by decide)) ?_
          refine mRun.go (q_istore (ls' := [some (mr 0), some (mi d), some (mi e), some (mi v), some (mi 0), some (mi (-4)), none]) dX8_clash_43 (Nat.le_of_ble_eq_true rfl) rfl) ?_
          refine mRun.go (q_iconst dX8_clash_45) ?_
          refine mRun.go (q_istore (ls' := [some (mr 0), some (mi d), some (mi e), some (mi v), some (mi 0), some (mi (-4)), some (mi 0)]) dX8_clash_46 (Nat.le_of_ble_eq_true rfl) rfl) ?_
          have e0 : a_clash S d e v = (if v = 0 then cntB (clB S d e) (lQ (sL S)) else lowB (clB S d e) (lQ (sL S))) := by
            simp only [a_clash, isD]
            rw [if_pos (by omega)]
          rw [e0]
          exact f_clash_loop hS hC (by omega) (by omega) (by omega) (lQ (sL S) + 1) 0 (by omega) (by omega)
        · have h33 := ite00 (Classical.not_not.mp c33)
          refine mRun.go (q_iconst dX8_clash_36) ?_
          refine r_iret dX8_clash_37 rfl ?_
          have e0 : a_clash S d e v = (-1) := by simp only [a_clash, isD]; rw [if_neg (by omega)]
          rw [e0]
          exact out_q hC hS hI frq_rf
