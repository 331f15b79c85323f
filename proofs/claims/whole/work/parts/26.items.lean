/-! ===== items: what the class's reader makes of them ===== -/
def stv (p : Int × Int × Int) : Tv := (p.1, p.2.1, p.2.2, (if p.1 = p.2.1 then 1 else 0), p.1, 0)
theorem startT_stv {t : Tv} {a b d : Int} : startT t a b d = stv (a, b, d) := by
  unfold startT stv
  by_cases h : a = b
  · rw [goToT_p ⟨rfl, h⟩, if_pos h]
  · rw [goToT_n (fun q => h q.2), if_neg h]
def RepC (J : mI) (R : Rd) : Prop := J 4 3 = rPl R ∧ J 4 4 = rWid R ∧ J 4 5 = rRows R ∧ J 4 6 = rDr R ∧ J 4 7 = rNt R ∧ (∀ i : Nat, (i : Int) < rPl R → J 6 i = rGr R i) ∧ (∀ k : Nat, (k : Int) < rDr R → J 8 k = rKd R k) ∧ (∀ i : Nat, i < 144 → J 13 i = rOd R i) ∧ (∀ t : Nat, (t : Int) < rNt R → tget J (15 + t) = stv (rTv R t)) ∧ J 11 2 = rWet R ∧ J 11 3 = 0
theorem RepC.fr {J K : mI} {R : Rd} (h : RepC J R) (hf : ∀ r, r ≠ 19 + 1 → K r = J r) (hn : rNt R ≤ 4) : RepC K R := by
  obtain ⟨h1, h2, h3, h4, h5, h6, h7, h8, h9, h10, h11⟩ := h
  refine ⟨by rw [hf 4 (by decide)]; exact h1, by rw [hf 4 (by decide)]; exact h2, by rw [hf 4 (by decide)]; exact h3, by rw [hf 4 (by decide)]; exact h4, by rw [hf 4 (by decide)]; exact h5, fun i hi => by rw [hf 6 (by decide)]; exact h6 i hi, fun i hi => by rw [hf 8 (by decide)]; exact h7 i hi, fun i hi => by rw [hf 13 (by decide)]; exact h8 i hi, fun t ht => ?_, by rw [hf 11 (by decide)]; exact h10, by rw [hf 11 (by decide)]; exact h11⟩
  rw [← h9 t ht]
  simp only [tget]
  rw [hf (15 + t) (by omega)]

theorem mup_self {I : mI} {r k : Nat} {x : Int} : mup I r k x r k = x := by simp [mup]
theorem mup_ne2 {I : mI} {r k j : Nat} {x : Int} (h : j ≠ k) : mup I r k x r j = I r j := by simp [mup, h]

set_option maxRecDepth 100000 in
theorem k_readDrum {σ : List mC} {J : mI} {c : Int → Int} {L s : Int} {R : Rd} (hR : IsRd σ) (hJ : Nrm J) (hT : TXt J c L) (hs : 0 ≤ s ∧ s ≤ 500) (hr : RepC J R) (hk : RdOk R) : mMt mX2_readDrum [mr 3, mr 1, mi s] (σ, J) (fun v h => v = some (mi (itD c R s).1) ∧ ∃ K, h = (σ, K) ∧ Nrm K ∧ Fr25 J K ∧ ((itD c R s).1 ≠ -1 → RepC K (itD c R s).2)) := by
  refine mMt.of pl_2 (Nat.le_of_ble_eq_true rfl) ?_
  show mRun mZt mX2_readDrum 0 [some (mr 3), some (mr 1), some (mi s), none, none] [] (σ, J) _
  refine mRun.go (q_aload_n dX2_readDrum_0 rfl rfl) ?_
  refine mRun.go (q_aload_n dX2_readDrum_1 rfl rfl) ?_
  refine mRun.go (q_iload_n dX2_readDrum_2 rfl rfl) ?_
  refine mRun.go (q_iconst dX2_readDrum_3) ?_
  have hfK2 := nxt_rng c s 44
  obtain ⟨v0, h0, hc0, rfl, K, rfl, hK, hfK, hvK⟩ := @k_readN1 σ J c L s hR hJ hT (by omega)
  have hrK := hr.fr hfK hk.2.2.2.2.1.2
  obtain ⟨h1, h2, h3, h4, h5, h6, h7, h8, h9, h10, h11⟩ := hrK
  have hpl := pl_rng hk
  obtain ⟨k1, k2, k3, k4, k5, k6, k7, k8, k9, k10⟩ := id hk
  have a1 := nxt_rng c s 59
  have a2 := nxt_rng c s 44
  have a3 : -1 ≤ (n2 c s).1 ∧ (n2 c s).1 ≤ 99 := ⟨(nxt_rng c (nxt c s 44).2 44).1, (nxt_rng c (nxt c s 44).2 44).2.1⟩
  have a4 : -1 ≤ (n3 c s).1 ∧ (n3 c s).1 ≤ 99 := ⟨(nxt_rng c (n2 c s).2 59).1, (nxt_rng c (n2 c s).2 59).2.1⟩
  have hend : (if (nxt c s 59).1 ≠ -1 then (nxt c s 59).2 else -1) = -1 ∨ ((nxt c s 59).1 ≠ -1 ∧ (if (nxt c s 59).1 ≠ -1 then (nxt c s 59).2 else -1) = (nxt c s 59).2 ∧ 0 ≤ s + 500) := by
    by_cases q : (nxt c s 59).1 ≠ -1
    · exact Or.inr ⟨q, if_pos q, by omega⟩
    · exact Or.inl (if_neg q)
  generalize hgE : (if (nxt c s 59).1 ≠ -1 then (nxt c s 59).2 else -1) = E at hc0 hend ⊢
  have hEr : -2147483648 ≤ E ∧ E < 2147483648 := by
    rcases hend with q | ⟨q, q2, -⟩
    · omega
    · have := a1.2.2.1 q
      omega
  refine mRun.go (q_callVi (r := 3) [mr 1, mi s, mi 1] [] dX2_readDrum_4 co_X2_90 ⟨Nat.le_of_ble_eq_true rfl, Nat.le_of_ble_eq_true rfl⟩ gw_320 gs_4 rfl hR.2.1 rfl rfl rfl (Nat.le_of_ble_eq_true rfl) hc0) ?_
  refine mRun.go (q_istore_n (ls' := [some (mr 3), some (mr 1), some (mi s), some (mi E), none]) dX2_readDrum_7 rfl (Nat.le_of_ble_eq_true rfl) rfl) ?_
  refine mRun.go (q_aload_n dX2_readDrum_8 rfl rfl) ?_
  refine mRun.go (q_getR dX2_readDrum_9 fo_X2_30 hR.2.1 rfl) ?_
  refine mRun.go (q_iconst dX2_readDrum_12) ?_
  refine mRun.go (q_callVi (r := 19) [mi 0] [] dX2_readDrum_13 co_X2_94 ⟨Nat.le_of_ble_eq_true rfl, Nat.le_of_ble_eq_true rfl⟩ gw_323 gw_324 rfl hR.2.2.2.2.1 rfl rfl rfl (Nat.le_of_ble_eq_true rfl) (k_atE (v := K 20 0) hR.2.2.2.2 (by omega) (by decide) (rat_nat (k := 0) rfl (by decide)))) ?_
  refine mRun.go (q_istore (ls' := [some (mr 3), some (mr 1), some (mi s), some (mi E), some (mi (K 20 0))]) dX2_readDrum_16 (Nat.le_of_ble_eq_true rfl) rfl) ?_
  refine mRun.go (q_iload_n dX2_readDrum_18 rfl rfl) ?_
  refine mRun.go (q_iconst dX2_readDrum_19) ?_
  refine r_icmp_eq (tgt := 40) dX2_readDrum_20 (by decide) hEr (by omega) (fun c20 => ?_) (fun c20 => ?_)
  · refine mRun.go (q_iconst dX2_readDrum_40) ?_
    refine r_iret dX2_readDrum_41 rfl ?_
    have hno : (itD c R s) = (-1, R) := by
      unfold itD
      rw [if_neg (fun z => ?_)]
      rcases hend with q | ⟨q, q2, -⟩
      · rw [if_pos z.1] at hgE
        have := a1.2.2.1 z.1
        omega
      · have hq := hvK q
        rw [show (19 + 1 : Nat) = 20 from rfl] at hq
        omega
    rw [hno]
    exact ⟨rfl, K, rfl, hK, fun r h => hfK r (by omega), fun z => absurd rfl z⟩
  · refine mRun.go (q_iload dX2_readDrum_23 rfl) ?_
    refine mRun.go (q_iconst dX2_readDrum_25) ?_
    refine r_icmp_gt (tgt := 40) dX2_readDrum_26 (by decide) (hK _ _) (by omega) (fun c26 => ?_) (fun c26 => ?_)
    · refine mRun.go (q_iconst dX2_readDrum_40) ?_
      refine r_iret dX2_readDrum_41 rfl ?_
      have hno : (itD c R s) = (-1, R) := by
        unfold itD
        rw [if_neg (fun z => ?_)]
        rcases hend with q | ⟨q, q2, -⟩
        · rw [if_pos z.1] at hgE
          have := a1.2.2.1 z.1
          omega
        · have hq := hvK q
          rw [show (19 + 1 : Nat) = 20 from rfl] at hq
          omega
      rw [hno]
      exact ⟨rfl, K, rfl, hK, fun r h => hfK r (by omega), fun z => absurd rfl z⟩
    · refine mRun.go (q_aload_n dX2_readDrum_29 rfl rfl) ?_
      refine mRun.go (q_getR dX2_readDrum_30 fo_X2_12 hR.2.1 rfl) ?_
      refine mRun.go (q_getE (x := rDr R) dX2_readDrum_33 fo_X2_97 hR.2.2.1.1 rfl h4) ?_
      refine mRun.go (q_iconst dX2_readDrum_36) ?_
      refine r_icmp_lt (tgt := 42) dX2_readDrum_37 (by decide) (by omega) (by omega) (fun c37 => ?_) (fun c37 => ?_)
      · refine mRun.go (q_aload_n dX2_readDrum_42 rfl rfl) ?_
        refine mRun.go (q_getR dX2_readDrum_43 fo_X2_12 hR.2.1 rfl) ?_
        refine mRun.go (q_getR dX2_readDrum_46 fo_X2_100 hR.2.2.1.1 rfl) ?_
        refine mRun.go (q_aload_n dX2_readDrum_49 rfl rfl) ?_
        refine mRun.go (q_getR dX2_readDrum_50 fo_X2_12 hR.2.1 rfl) ?_
        refine mRun.go (q_getE (x := rDr R) dX2_readDrum_53 fo_X2_97 hR.2.2.1.1 rfl h4) ?_
        refine mRun.go (q_iload dX2_readDrum_56 rfl) ?_
        have hdn : rDr R = ((rDr R).toNat : Int) := by omega
        refine mRun.go (q_callVv (r := 4 + 3) [mi (rDr R), mi (K 20 0)] [] dX2_readDrum_58 co_X2_80 ⟨Nat.le_of_ble_eq_true rfl, Nat.le_of_ble_eq_true rfl⟩ gw_311 gw_312 rfl hR.2.2.1.2.2.1.1 rfl rfl rfl (Nat.le_of_ble_eq_true rfl) (k_putE (J := mup K 8 (rDr R).toNat (K 20 0)) hR.2.2.1.2.2.1 (by omega) (by decide) (rput_nat (k := (rDr R).toNat) hdn (by omega)))) ?_
        refine mRun.go (q_aload_n dX2_readDrum_61 rfl rfl) ?_
        refine mRun.go (q_getR dX2_readDrum_62 fo_X2_12 hR.2.1 rfl) ?_
        refine mRun.go (q_dup dX2_readDrum_65 rfl) ?_
        refine mRun.go (q_getE (x := rDr R) dX2_readDrum_66 fo_X2_97 hR.2.2.1.1 rfl (by rw [mup_ne (by decide)]; exact h4)) ?_
        refine mRun.go (q_iconst dX2_readDrum_69) ?_
        refine mRun.go (q_iadd dX2_readDrum_70) ?_
        refine mRun.go (q_putI dX2_readDrum_71 fo_X2_97 fp_1_6 hR.2.2.1.1 rfl) ?_
        refine mRun.go (q_iload_n dX2_readDrum_74 rfl rfl) ?_
        refine r_iret dX2_readDrum_75 rfl ?_
        rcases hend with q | ⟨q, q2, -⟩
        · exact absurd q (by omega)
        have hq := hvK q
        rw [show (19 + 1 : Nat) = 20 from rfl] at hq
        have hyes : (nxt c s 59).1 ≠ -1 ∧ (nxt c s 59).1 ≤ 3 ∧ rDr R < 4 := ⟨q, by (first | omega | (split at * <;> omega) | ((try split at *) <;> (try split at *) <;> (try split at *) <;> omega)), by (first | omega | (split at * <;> omega) | ((try split at *) <;> (try split at *) <;> (try split at *) <;> omega))⟩
        unfold itD
        rw [if_pos hyes]
        refine ⟨by rw [← hgE, if_pos q], _, rfl, (nrm_mup (nrm_mup hK (hK _ _)) (by omega)), fun r h => ?_, fun _ => ?_⟩
        · rw [mup_nf (by omega), mup_nf (by omega)]; exact hfK r (by omega)
        · refine ⟨by simp [mup]; exact h1, by simp [mup]; exact h2, by simp [mup]; exact h3, by simp [mup], by simp [mup]; exact h5, fun i hi => by simp [mup]; exact h6 i hi, fun i hi => ?_, fun i hi => by simp [mup]; exact h8 i hi, fun t ht => ?_, by simp [mup]; exact h10, by simp [mup]; exact h11⟩
          · have hi : (i : Int) < rDr R + 1 := hi
            show mup _ 4 6 _ 8 i = iup (rKd R) (rDr R) (nxt c s 59).1 i
            rw [mup_ne (by decide)]
            by_cases hiD : i = (rDr R).toNat
            · subst hiD; rw [mup_self]; unfold iup; rw [if_pos (by omega)]; exact hq
            · rw [mup_ne2 hiD]; unfold iup; rw [if_neg (by omega)]; exact h7 i (by omega)
          · rw [tget_mup_ne (by omega), tget_mup_ne (by omega)]; exact h9 t ht
      · refine mRun.go (q_iconst dX2_readDrum_40) ?_
        refine r_iret dX2_readDrum_41 rfl ?_
        have hno : (itD c R s) = (-1, R) := by
          unfold itD
          rw [if_neg (fun z => ?_)]
          rcases hend with q | ⟨q, q2, -⟩
          · rw [if_pos z.1] at hgE
            have := a1.2.2.1 z.1
            omega
          · have hq := hvK q
            rw [show (19 + 1 : Nat) = 20 from rfl] at hq
            omega
        rw [hno]
        exact ⟨rfl, K, rfl, hK, fun r h => hfK r (by omega), fun z => absurd rfl z⟩

set_option maxRecDepth 100000 in
theorem k_readWet {σ : List mC} {J : mI} {c : Int → Int} {L s : Int} {R : Rd} (hR : IsRd σ) (hJ : Nrm J) (hT : TXt J c L) (hs : 0 ≤ s ∧ s ≤ 500) (hr : RepC J R) (hk : RdOk R) : mMt mX2_readWet [mr 3, mr 1, mi s] (σ, J) (fun v h => v = some (mi (itW c R s).1) ∧ ∃ K, h = (σ, K) ∧ Nrm K ∧ Fr25 J K ∧ ((itW c R s).1 ≠ -1 → RepC K (itW c R s).2)) := by
  refine mMt.of pl_2 (Nat.le_of_ble_eq_true rfl) ?_
  show mRun mZt mX2_readWet 0 [some (mr 3), some (mr 1), some (mi s), none] [] (σ, J) _
  refine mRun.go (q_aload_n dX2_readWet_0 rfl rfl) ?_
  refine mRun.go (q_aload_n dX2_readWet_1 rfl rfl) ?_
  refine mRun.go (q_iload_n dX2_readWet_2 rfl rfl) ?_
  refine mRun.go (q_iconst dX2_readWet_3) ?_
  have hfK2 := nxt_rng c s 44
  obtain ⟨v0, h0, hc0, rfl, K, rfl, hK, hfK, hvK⟩ := @k_readN1 σ J c L s hR hJ hT (by omega)
  have hrK := hr.fr hfK hk.2.2.2.2.1.2
  obtain ⟨h1, h2, h3, h4, h5, h6, h7, h8, h9, h10, h11⟩ := hrK
  have hpl := pl_rng hk
  obtain ⟨k1, k2, k3, k4, k5, k6, k7, k8, k9, k10⟩ := id hk
  have a1 := nxt_rng c s 59
  have a2 := nxt_rng c s 44
  have a3 : -1 ≤ (n2 c s).1 ∧ (n2 c s).1 ≤ 99 := ⟨(nxt_rng c (nxt c s 44).2 44).1, (nxt_rng c (nxt c s 44).2 44).2.1⟩
  have a4 : -1 ≤ (n3 c s).1 ∧ (n3 c s).1 ≤ 99 := ⟨(nxt_rng c (n2 c s).2 59).1, (nxt_rng c (n2 c s).2 59).2.1⟩
  have hend : (if (nxt c s 59).1 ≠ -1 then (nxt c s 59).2 else -1) = -1 ∨ ((nxt c s 59).1 ≠ -1 ∧ (if (nxt c s 59).1 ≠ -1 then (nxt c s 59).2 else -1) = (nxt c s 59).2 ∧ 0 ≤ s + 500) := by
    by_cases q : (nxt c s 59).1 ≠ -1
    · exact Or.inr ⟨q, if_pos q, by omega⟩
    · exact Or.inl (if_neg q)
  generalize hgE : (if (nxt c s 59).1 ≠ -1 then (nxt c s 59).2 else -1) = E at hc0 hend ⊢
  have hEr : -2147483648 ≤ E ∧ E < 2147483648 := by
    rcases hend with q | ⟨q, q2, -⟩
    · omega
    · have := a1.2.2.1 q
      omega
  refine mRun.go (q_callVi (r := 3) [mr 1, mi s, mi 1] [] dX2_readWet_4 co_X2_90 ⟨Nat.le_of_ble_eq_true rfl, Nat.le_of_ble_eq_true rfl⟩ gw_320 gs_4 rfl hR.2.1 rfl rfl rfl (Nat.le_of_ble_eq_true rfl) hc0) ?_
  refine mRun.go (q_istore_n (ls' := [some (mr 3), some (mr 1), some (mi s), some (mi E)]) dX2_readWet_7 rfl (Nat.le_of_ble_eq_true rfl) rfl) ?_
  refine mRun.go (q_iload_n dX2_readWet_8 rfl rfl) ?_
  refine mRun.go (q_iconst dX2_readWet_9) ?_
  refine r_icmp_eq (tgt := 25) dX2_readWet_10 (by decide) hEr (by omega) (fun c10 => ?_) (fun c10 => ?_)
  · refine mRun.go (q_iconst dX2_readWet_25) ?_
    refine r_iret dX2_readWet_26 rfl ?_
    have hno : (itW c R s) = (-1, R) := by
      unfold itW
      rw [if_neg (fun z => ?_)]
      rcases hend with q | ⟨q, q2, -⟩
      · rw [if_pos z.1] at hgE
        have := a1.2.2.1 z.1
        omega
      · have hq := hvK q
        rw [show (19 + 1 : Nat) = 20 from rfl] at hq
        omega
    rw [hno]
    exact ⟨rfl, K, rfl, hK, fun r h => hfK r (by omega), fun z => absurd rfl z⟩
  · refine mRun.go (q_aload_n dX2_readWet_13 rfl rfl) ?_
    refine mRun.go (q_getR dX2_readWet_14 fo_X2_30 hR.2.1 rfl) ?_
    refine mRun.go (q_iconst dX2_readWet_17) ?_
    refine mRun.go (q_callVi (r := 19) [mi 0] [] dX2_readWet_18 co_X2_94 ⟨Nat.le_of_ble_eq_true rfl, Nat.le_of_ble_eq_true rfl⟩ gw_323 gw_324 rfl hR.2.2.2.2.1 rfl rfl rfl (Nat.le_of_ble_eq_true rfl) (k_atE (v := K 20 0) hR.2.2.2.2 (by omega) (by decide) (rat_nat (k := 0) rfl (by decide)))) ?_
    refine mRun.go (q_iconst dX2_readWet_21) ?_
    refine r_icmp_le (tgt := 27) dX2_readWet_22 (by decide) (hK _ _) (by omega) (fun c22 => ?_) (fun c22 => ?_)
    · refine mRun.go (q_aload_n dX2_readWet_27 rfl rfl) ?_
      refine mRun.go (q_getR dX2_readWet_28 fo_X2_21 hR.2.1 rfl) ?_
      refine mRun.go (q_aload_n dX2_readWet_31 rfl rfl) ?_
      refine mRun.go (q_getR dX2_readWet_32 fo_X2_30 hR.2.1 rfl) ?_
      refine mRun.go (q_iconst dX2_readWet_35) ?_
      refine mRun.go (q_callVi (r := 19) [mi 0] [mr 11] dX2_readWet_36 co_X2_94 ⟨Nat.le_of_ble_eq_true rfl, Nat.le_of_ble_eq_true rfl⟩ gw_323 gw_324 rfl hR.2.2.2.2.1 rfl rfl rfl (Nat.le_of_ble_eq_true rfl) (k_atE (v := K 20 0) hR.2.2.2.2 (by omega) (by decide) (rat_nat (k := 0) rfl (by decide)))) ?_
      refine mRun.go (q_putI dX2_readWet_39 fo_X2_126 fp_0_2 hR.2.2.2.1.1 rfl) ?_
      refine mRun.go (q_iload_n dX2_readWet_42 rfl rfl) ?_
      refine r_iret dX2_readWet_43 rfl ?_
      rcases hend with q | ⟨q, q2, -⟩
      · exact absurd q (by omega)
      have hq := hvK q
      rw [show (19 + 1 : Nat) = 20 from rfl] at hq
      have hyes : (nxt c s 59).1 ≠ -1 ∧ (nxt c s 59).1 ≤ 3 := ⟨q, by (first | omega | (split at * <;> omega) | ((try split at *) <;> (try split at *) <;> (try split at *) <;> omega))⟩
      unfold itW
      rw [if_pos hyes]
      refine ⟨by rw [← hgE, if_pos q], _, rfl, (nrm_mup hK (hK _ _)), fun r h => ?_, fun _ => ?_⟩
      · rw [mup_nf (by omega)]; exact hfK r (by omega)
      · refine ⟨by simp [mup]; exact h1, by simp [mup]; exact h2, by simp [mup]; exact h3, by simp [mup]; exact h4, by simp [mup]; exact h5, fun i hi => by simp [mup]; exact h6 i hi, fun i hi => by simp [mup]; exact h7 i hi, fun i hi => by simp [mup]; exact h8 i hi, fun t ht => ?_, by simp [mup]; exact hq, by simp [mup]; exact h11⟩
        rw [tget_mup_ne (by omega)]; exact h9 t ht
    · refine mRun.go (q_iconst dX2_readWet_25) ?_
      refine r_iret dX2_readWet_26 rfl ?_
      have hno : (itW c R s) = (-1, R) := by
        unfold itW
        rw [if_neg (fun z => ?_)]
        rcases hend with q | ⟨q, q2, -⟩
        · rw [if_pos z.1] at hgE
          have := a1.2.2.1 z.1
          omega
        · have hq := hvK q
          rw [show (19 + 1 : Nat) = 20 from rfl] at hq
          omega
      rw [hno]
      exact ⟨rfl, K, rfl, hK, fun r h => hfK r (by omega), fun z => absurd rfl z⟩

set_option maxRecDepth 100000 in
theorem k_readTold {σ : List mC} {J : mI} {c : Int → Int} {L s : Int} {R : Rd} (hR : IsRd σ) (hJ : Nrm J) (hT : TXt J c L) (hs : 0 ≤ s ∧ s ≤ 500) (hr : RepC J R) (hk : RdOk R) : mMt mX2_readTold [mr 3, mr 1, mi s] (σ, J) (fun v h => v = some (mi (itX c R s).1) ∧ ∃ K, h = (σ, K) ∧ Nrm K ∧ Fr25 J K ∧ ((itX c R s).1 ≠ -1 → RepC K (itX c R s).2)) := by
  refine mMt.of pl_2 (Nat.le_of_ble_eq_true rfl) ?_
  show mRun mZt mX2_readTold 0 [some (mr 3), some (mr 1), some (mi s), none, none, none, none] [] (σ, J) _
  refine mRun.go (q_aload_n dX2_readTold_0 rfl rfl) ?_
  refine mRun.go (q_aload_n dX2_readTold_1 rfl rfl) ?_
  refine mRun.go (q_iload_n dX2_readTold_2 rfl rfl) ?_
  refine mRun.go (q_iconst dX2_readTold_3) ?_
  have hfK2 := nxt_rng c s 44
  obtain ⟨v0, h0, hc0, rfl, K, rfl, hK, hfK, hvK⟩ := @k_readN3 σ J c L s hR hJ hT (by omega)
  have hrK := hr.fr hfK hk.2.2.2.2.1.2
  obtain ⟨h1, h2, h3, h4, h5, h6, h7, h8, h9, h10, h11⟩ := hrK
  have hpl := pl_rng hk
  obtain ⟨k1, k2, k3, k4, k5, k6, k7, k8, k9, k10⟩ := id hk
  have a1 := nxt_rng c s 59
  have a2 := nxt_rng c s 44
  have a3 : -1 ≤ (n2 c s).1 ∧ (n2 c s).1 ≤ 99 := ⟨(nxt_rng c (nxt c s 44).2 44).1, (nxt_rng c (nxt c s 44).2 44).2.1⟩
  have a4 : -1 ≤ (n3 c s).1 ∧ (n3 c s).1 ≤ 99 := ⟨(nxt_rng c (n2 c s).2 59).1, (nxt_rng c (n2 c s).2 59).2.1⟩
  have a5 : (n2 c s).1 ≠ -1 → (nxt c s 44).2 + 2 ≤ (n2 c s).2 ∧ (n2 c s).2 ≤ (nxt c s 44).2 + 3 := (nxt_rng c (nxt c s 44).2 44).2.2.1
  have a6 : (n3 c s).1 ≠ -1 → (n2 c s).2 + 2 ≤ (n3 c s).2 ∧ (n3 c s).2 ≤ (n2 c s).2 + 3 := (nxt_rng c (n2 c s).2 59).2.2.1
  have hend : (if ((nxt c s 44).1 ≠ -1 ∧ (n2 c s).1 ≠ -1 ∧ (n3 c s).1 ≠ -1) then (n3 c s).2 else -1) = -1 ∨ (((nxt c s 44).1 ≠ -1 ∧ (n2 c s).1 ≠ -1 ∧ (n3 c s).1 ≠ -1) ∧ (if ((nxt c s 44).1 ≠ -1 ∧ (n2 c s).1 ≠ -1 ∧ (n3 c s).1 ≠ -1) then (n3 c s).2 else -1) = (n3 c s).2 ∧ 0 ≤ s + 500) := by
    by_cases q : ((nxt c s 44).1 ≠ -1 ∧ (n2 c s).1 ≠ -1 ∧ (n3 c s).1 ≠ -1)
    · exact Or.inr ⟨q, if_pos q, by omega⟩
    · exact Or.inl (if_neg q)
  generalize hgE : (if ((nxt c s 44).1 ≠ -1 ∧ (n2 c s).1 ≠ -1 ∧ (n3 c s).1 ≠ -1) then (n3 c s).2 else -1) = E at hc0 hend ⊢
  have hEr : -2147483648 ≤ E ∧ E < 2147483648 := by
    rcases hend with q | ⟨q, q2, -⟩
    · omega
    · have z1 := a2.2.2.1 q.1
      have z2 := a5 q.2.1
      have z3 := a6 q.2.2
      omega
  refine mRun.go (q_callVi (r := 3) [mr 1, mi s, mi 3] [] dX2_readTold_4 co_X2_90 ⟨Nat.le_of_ble_eq_true rfl, Nat.le_of_ble_eq_true rfl⟩ gw_320 gs_4 rfl hR.2.1 rfl rfl rfl (Nat.le_of_ble_eq_true rfl) hc0) ?_
  refine mRun.go (q_istore_n (ls' := [some (mr 3), some (mr 1), some (mi s), some (mi E), none, none, none]) dX2_readTold_7 rfl (Nat.le_of_ble_eq_true rfl) rfl) ?_
  refine mRun.go (q_aload_n dX2_readTold_8 rfl rfl) ?_
  refine mRun.go (q_getR dX2_readTold_9 fo_X2_30 hR.2.1 rfl) ?_
  refine mRun.go (q_iconst dX2_readTold_12) ?_
  refine mRun.go (q_callVi (r := 19) [mi 0] [] dX2_readTold_13 co_X2_94 ⟨Nat.le_of_ble_eq_true rfl, Nat.le_of_ble_eq_true rfl⟩ gw_323 gw_324 rfl hR.2.2.2.2.1 rfl rfl rfl (Nat.le_of_ble_eq_true rfl) (k_atE (v := K 20 0) hR.2.2.2.2 (by omega) (by decide) (rat_nat (k := 0) rfl (by decide)))) ?_
  refine mRun.go (q_istore (ls' := [some (mr 3), some (mr 1), some (mi s), some (mi E), some (mi (K 20 0)), none, none]) dX2_readTold_16 (Nat.le_of_ble_eq_true rfl) rfl) ?_
  refine mRun.go (q_aload_n dX2_readTold_18 rfl rfl) ?_
  refine mRun.go (q_getR dX2_readTold_19 fo_X2_30 hR.2.1 rfl) ?_
  refine mRun.go (q_iconst dX2_readTold_22) ?_
  refine mRun.go (q_callVi (r := 19) [mi 1] [] dX2_readTold_23 co_X2_94 ⟨Nat.le_of_ble_eq_true rfl, Nat.le_of_ble_eq_true rfl⟩ gw_323 gw_324 rfl hR.2.2.2.2.1 rfl rfl rfl (Nat.le_of_ble_eq_true rfl) (k_atE (v := K 20 1) hR.2.2.2.2 (by omega) (by decide) (rat_nat (k := 1) rfl (by decide)))) ?_
  refine mRun.go (q_istore (ls' := [some (mr 3), some (mr 1), some (mi s), some (mi E), some (mi (K 20 0)), some (mi (K 20 1)), none]) dX2_readTold_26 (Nat.le_of_ble_eq_true rfl) rfl) ?_
  refine mRun.go (q_aload_n dX2_readTold_28 rfl rfl) ?_
  refine mRun.go (q_getR dX2_readTold_29 fo_X2_30 hR.2.1 rfl) ?_
  refine mRun.go (q_iconst dX2_readTold_32) ?_
  refine mRun.go (q_callVi (r := 19) [mi 2] [] dX2_readTold_33 co_X2_94 ⟨Nat.le_of_ble_eq_true rfl, Nat.le_of_ble_eq_true rfl⟩ gw_323 gw_324 rfl hR.2.2.2.2.1 rfl rfl rfl (Nat.le_of_ble_eq_true rfl) (k_atE (v := K 20 2) hR.2.2.2.2 (by omega) (by decide) (rat_nat (k := 2) rfl (by decide)))) ?_
  refine mRun.go (q_istore (ls' := [some (mr 3), some (mr 1), some (mi s), some (mi E), some (mi (K 20 0)), some (mi (K 20 1)), some (mi (K 20 2))]) dX2_readTold_36 (Nat.le_of_ble_eq_true rfl) rfl) ?_
  refine mRun.go (q_iload_n dX2_readTold_38 rfl rfl) ?_
  refine mRun.go (q_iconst dX2_readTold_39) ?_
  refine r_icmp_eq (tgt := 73) dX2_readTold_40 (by decide) hEr (by omega) (fun c40 => ?_) (fun c40 => ?_)
  · refine mRun.go (q_iconst dX2_readTold_73) ?_
    refine r_iret dX2_readTold_74 rfl ?_
    have hno : (itX c R s) = (-1, R) := by
      unfold itX
      rw [if_neg (fun z => ?_)]
      rcases hend with q | ⟨q, q2, -⟩
      · rw [if_pos z.1] at hgE
        have z1 := a2.2.2.1 z.1.1; have z2 := a5 z.1.2.1; have z3 := a6 z.1.2.2
        omega
      · have hq := hvK q
        rw [show (19 + 1 : Nat) = 20 from rfl] at hq
        have z1 := a2.2.2.1 q.1; have z2 := a5 q.2.1; have z3 := a6 q.2.2
        (try split at *) <;> (try split at *) <;> (try split at *) <;> omega
    rw [hno]
    exact ⟨rfl, K, rfl, hK, fun r h => hfK r (by omega), fun z => absurd rfl z⟩
  · refine mRun.go (q_aload_n dX2_readTold_43 rfl rfl) ?_
    refine mRun.go (q_getR dX2_readTold_44 fo_X2_12 hR.2.1 rfl) ?_
    refine mRun.go (q_iload dX2_readTold_47 rfl) ?_
    have hh49 := @k_hasDrum σ K 4 (K 20 0) hR.2.2.1 hK (hK _ _)
    rw [h4] at hh49
    refine mRun.go (q_callVi (r := 4) [mi (K 20 0)] [] dX2_readTold_49 co_X2_103 ⟨Nat.le_of_ble_eq_true rfl, Nat.le_of_ble_eq_true rfl⟩ gw_331 gw_332 rfl hR.2.2.1.1 rfl rfl rfl (Nat.le_of_ble_eq_true rfl) hh49) ?_
    refine r_if_eq (tgt := 73) dX2_readTold_52 (by decide) (by split <;> omega) (fun c52 => ?_) (fun c52 => ?_)
    · refine mRun.go (q_iconst dX2_readTold_73) ?_
      refine r_iret dX2_readTold_74 rfl ?_
      have hno : (itX c R s) = (-1, R) := by
        unfold itX
        rw [if_neg (fun z => ?_)]
        rcases hend with q | ⟨q, q2, -⟩
        · rw [if_pos z.1] at hgE
          have z1 := a2.2.2.1 z.1.1; have z2 := a5 z.1.2.1; have z3 := a6 z.1.2.2
          omega
        · have hq := hvK q
          rw [show (19 + 1 : Nat) = 20 from rfl] at hq
          have z1 := a2.2.2.1 q.1; have z2 := a5 q.2.1; have z3 := a6 q.2.2
          (try split at *) <;> (try split at *) <;> (try split at *) <;> omega
      rw [hno]
      exact ⟨rfl, K, rfl, hK, fun r h => hfK r (by omega), fun z => absurd rfl z⟩
    · refine mRun.go (q_aload_n dX2_readTold_55 rfl rfl) ?_
      refine mRun.go (q_getR dX2_readTold_56 fo_X2_12 hR.2.1 rfl) ?_
      refine mRun.go (q_iload dX2_readTold_59 rfl) ?_
      have hh61 := @k_hasPlace σ K 4 (K 20 1) hR.2.2.1 hK (hK _ _)
      rw [h1] at hh61
      refine mRun.go (q_callVi (r := 4) [mi (K 20 1)] [] dX2_readTold_61 co_X2_107 ⟨Nat.le_of_ble_eq_true rfl, Nat.le_of_ble_eq_true rfl⟩ gw_335 gw_336 rfl hR.2.2.1.1 rfl rfl rfl (Nat.le_of_ble_eq_true rfl) hh61) ?_
      refine r_if_eq (tgt := 73) dX2_readTold_64 (by decide) (by split <;> omega) (fun c64 => ?_) (fun c64 => ?_)
      · refine mRun.go (q_iconst dX2_readTold_73) ?_
        refine r_iret dX2_readTold_74 rfl ?_
        have hno : (itX c R s) = (-1, R) := by
          unfold itX
          rw [if_neg (fun z => ?_)]
          rcases hend with q | ⟨q, q2, -⟩
          · rw [if_pos z.1] at hgE
            have z1 := a2.2.2.1 z.1.1; have z2 := a5 z.1.2.1; have z3 := a6 z.1.2.2
            omega
          · have hq := hvK q
            rw [show (19 + 1 : Nat) = 20 from rfl] at hq
            have z1 := a2.2.2.1 q.1; have z2 := a5 q.2.1; have z3 := a6 q.2.2
            (try split at *) <;> (try split at *) <;> (try split at *) <;> omega
        rw [hno]
        exact ⟨rfl, K, rfl, hK, fun r h => hfK r (by omega), fun z => absurd rfl z⟩
      · refine mRun.go (q_iload dX2_readTold_67 rfl) ?_
        refine mRun.go (q_iconst dX2_readTold_69) ?_
        refine r_icmp_le (tgt := 75) dX2_readTold_70 (by decide) (hK _ _) (by omega) (fun c70 => ?_) (fun c70 => ?_)
        · refine mRun.go (q_aload_n dX2_readTold_75 rfl rfl) ?_
          refine mRun.go (q_getR dX2_readTold_76 fo_X2_21 hR.2.1 rfl) ?_
          refine mRun.go (q_iload dX2_readTold_79 rfl) ?_
          refine mRun.go (q_iload dX2_readTold_81 rfl) ?_
          refine mRun.go (q_iload dX2_readTold_83 rfl) ?_
          have hd0 : 0 ≤ K 20 0 ∧ K 20 0 < rDr R := by (try split at *) <;> (try split at *) <;> omega
          have hx0 : 0 ≤ K 20 1 ∧ K 20 1 < rPl R := by (try split at *) <;> (try split at *) <;> omega
          have hst := @k_setTold σ K 11 (K 20 0) (K 20 1) (K 20 2) hR.2.2.2.1 hK (by omega) (by omega) (hK _ _)
          rw [rput_nat (k := (K 20 0 * 36 + K 20 1).toNat) (by omega) (by omega)] at hst
          refine mRun.go (q_callVv (r := 11) [mi (K 20 0), mi (K 20 1), mi (K 20 2)] [] dX2_readTold_85 co_X2_110 ⟨Nat.le_of_ble_eq_true rfl, Nat.le_of_ble_eq_true rfl⟩ gw_339 gw_340 rfl hR.2.2.2.1.1 rfl rfl rfl (Nat.le_of_ble_eq_true rfl) hst) ?_
          refine mRun.go (q_iload_n dX2_readTold_88 rfl rfl) ?_
          refine r_iret dX2_readTold_89 rfl ?_
          rcases hend with q | ⟨q, q2, -⟩
          · exact absurd q (by omega)
          have hq := hvK q
          rw [show (19 + 1 : Nat) = 20 from rfl] at hq
          have hyes : ((nxt c s 44).1 ≠ -1 ∧ (n2 c s).1 ≠ -1 ∧ (n3 c s).1 ≠ -1) ∧ (nxt c s 44).1 < rDr R ∧ (n2 c s).1 < rPl R ∧ (n3 c s).1 ≤ 3 := ⟨q, by (first | omega | (split at * <;> omega) | ((try split at *) <;> (try split at *) <;> (try split at *) <;> omega)), by (first | omega | (split at * <;> omega) | ((try split at *) <;> (try split at *) <;> (try split at *) <;> omega)), by (first | omega | (split at * <;> omega) | ((try split at *) <;> (try split at *) <;> (try split at *) <;> omega))⟩
          unfold itX
          rw [if_pos hyes]
          refine ⟨by rw [← hgE, if_pos q], _, rfl, (nrm_mup hK (hK _ _)), fun r h => ?_, fun _ => ?_⟩
          · rw [mup_nf (by omega)]; exact hfK r (by omega)
          · refine ⟨by simp [mup]; exact h1, by simp [mup]; exact h2, by simp [mup]; exact h3, by simp [mup]; exact h4, by simp [mup]; exact h5, fun i hi => by simp [mup]; exact h6 i hi, fun i hi => by simp [mup]; exact h7 i hi, fun i hi => ?_, fun t ht => ?_, by simp [mup]; exact h10, by simp [mup]; exact h11⟩
            · show mup K 13 _ _ 13 i = iup (rOd R) ((nxt c s 44).1 * 36 + (n2 c s).1) (n3 c s).1 i
              by_cases hiD : i = (K 20 0 * 36 + K 20 1).toNat
              · subst hiD; rw [mup_self]; unfold iup; rw [if_pos (by omega)]; exact hq.2.2
              · rw [mup_ne2 hiD]; unfold iup; rw [if_neg (by omega)]; exact h8 i hi
            · rw [tget_mup_ne (by omega)]; exact h9 t ht
        · refine mRun.go (q_iconst dX2_readTold_73) ?_
          refine r_iret dX2_readTold_74 rfl ?_
          have hno : (itX c R s) = (-1, R) := by
            unfold itX
            rw [if_neg (fun z => ?_)]
            rcases hend with q | ⟨q, q2, -⟩
            · rw [if_pos z.1] at hgE
              have z1 := a2.2.2.1 z.1.1; have z2 := a5 z.1.2.1; have z3 := a6 z.1.2.2
              omega
            · have hq := hvK q
              rw [show (19 + 1 : Nat) = 20 from rfl] at hq
              have z1 := a2.2.2.1 q.1; have z2 := a5 q.2.1; have z3 := a6 q.2.2
              (try split at *) <;> (try split at *) <;> (try split at *) <;> omega
          rw [hno]
          exact ⟨rfl, K, rfl, hK, fun r h => hfK r (by omega), fun z => absurd rfl z⟩

set_option maxRecDepth 100000 in
theorem k_readTraveller {σ : List mC} {J : mI} {c : Int → Int} {L s : Int} {R : Rd} (hR : IsRd σ) (hJ : Nrm J) (hT : TXt J c L) (hs : 0 ≤ s ∧ s ≤ 500) (hr : RepC J R) (hk : RdOk R) : mMt mX2_readTraveller [mr 3, mr 1, mi s] (σ, J) (fun v h => v = some (mi (itT c R s).1) ∧ ∃ K, h = (σ, K) ∧ Nrm K ∧ Fr25 J K ∧ ((itT c R s).1 ≠ -1 → RepC K (itT c R s).2)) := by
  refine mMt.of pl_2 (Nat.le_of_ble_eq_true rfl) ?_
  show mRun mZt mX2_readTraveller 0 [some (mr 3), some (mr 1), some (mi s), none, none, none, none] [] (σ, J) _
  refine mRun.go (q_aload_n dX2_readTraveller_0 rfl rfl) ?_
  refine mRun.go (q_aload_n dX2_readTraveller_1 rfl rfl) ?_
  refine mRun.go (q_iload_n dX2_readTraveller_2 rfl rfl) ?_
  refine mRun.go (q_iconst dX2_readTraveller_3) ?_
  have hfK2 := nxt_rng c s 44
  obtain ⟨v0, h0, hc0, rfl, K, rfl, hK, hfK, hvK⟩ := @k_readN3 σ J c L s hR hJ hT (by omega)
  have hrK := hr.fr hfK hk.2.2.2.2.1.2
  obtain ⟨h1, h2, h3, h4, h5, h6, h7, h8, h9, h10, h11⟩ := hrK
  have hpl := pl_rng hk
  obtain ⟨k1, k2, k3, k4, k5, k6, k7, k8, k9, k10⟩ := id hk
  have a1 := nxt_rng c s 59
  have a2 := nxt_rng c s 44
  have a3 : -1 ≤ (n2 c s).1 ∧ (n2 c s).1 ≤ 99 := ⟨(nxt_rng c (nxt c s 44).2 44).1, (nxt_rng c (nxt c s 44).2 44).2.1⟩
  have a4 : -1 ≤ (n3 c s).1 ∧ (n3 c s).1 ≤ 99 := ⟨(nxt_rng c (n2 c s).2 59).1, (nxt_rng c (n2 c s).2 59).2.1⟩
  have a5 : (n2 c s).1 ≠ -1 → (nxt c s 44).2 + 2 ≤ (n2 c s).2 ∧ (n2 c s).2 ≤ (nxt c s 44).2 + 3 := (nxt_rng c (nxt c s 44).2 44).2.2.1
  have a6 : (n3 c s).1 ≠ -1 → (n2 c s).2 + 2 ≤ (n3 c s).2 ∧ (n3 c s).2 ≤ (n2 c s).2 + 3 := (nxt_rng c (n2 c s).2 59).2.2.1
  have hend : (if ((nxt c s 44).1 ≠ -1 ∧ (n2 c s).1 ≠ -1 ∧ (n3 c s).1 ≠ -1) then (n3 c s).2 else -1) = -1 ∨ (((nxt c s 44).1 ≠ -1 ∧ (n2 c s).1 ≠ -1 ∧ (n3 c s).1 ≠ -1) ∧ (if ((nxt c s 44).1 ≠ -1 ∧ (n2 c s).1 ≠ -1 ∧ (n3 c s).1 ≠ -1) then (n3 c s).2 else -1) = (n3 c s).2 ∧ 0 ≤ s + 500) := by
    by_cases q : ((nxt c s 44).1 ≠ -1 ∧ (n2 c s).1 ≠ -1 ∧ (n3 c s).1 ≠ -1)
    · exact Or.inr ⟨q, if_pos q, by omega⟩
    · exact Or.inl (if_neg q)
  generalize hgE : (if ((nxt c s 44).1 ≠ -1 ∧ (n2 c s).1 ≠ -1 ∧ (n3 c s).1 ≠ -1) then (n3 c s).2 else -1) = E at hc0 hend ⊢
  have hEr : -2147483648 ≤ E ∧ E < 2147483648 := by
    rcases hend with q | ⟨q, q2, -⟩
    · omega
    · have z1 := a2.2.2.1 q.1
      have z2 := a5 q.2.1
      have z3 := a6 q.2.2
      omega
  refine mRun.go (q_callVi (r := 3) [mr 1, mi s, mi 3] [] dX2_readTraveller_4 co_X2_90 ⟨Nat.le_of_ble_eq_true rfl, Nat.le_of_ble_eq_true rfl⟩ gw_320 gs_4 rfl hR.2.1 rfl rfl rfl (Nat.le_of_ble_eq_true rfl) hc0) ?_
  refine mRun.go (q_istore_n (ls' := [some (mr 3), some (mr 1), some (mi s), some (mi E), none, none, none]) dX2_readTraveller_7 rfl (Nat.le_of_ble_eq_true rfl) rfl) ?_
  refine mRun.go (q_aload_n dX2_readTraveller_8 rfl rfl) ?_
  refine mRun.go (q_getR dX2_readTraveller_9 fo_X2_30 hR.2.1 rfl) ?_
  refine mRun.go (q_iconst dX2_readTraveller_12) ?_
  refine mRun.go (q_callVi (r := 19) [mi 0] [] dX2_readTraveller_13 co_X2_94 ⟨Nat.le_of_ble_eq_true rfl, Nat.le_of_ble_eq_true rfl⟩ gw_323 gw_324 rfl hR.2.2.2.2.1 rfl rfl rfl (Nat.le_of_ble_eq_true rfl) (k_atE (v := K 20 0) hR.2.2.2.2 (by omega) (by decide) (rat_nat (k := 0) rfl (by decide)))) ?_
  refine mRun.go (q_istore (ls' := [some (mr 3), some (mr 1), some (mi s), some (mi E), some (mi (K 20 0)), none, none]) dX2_readTraveller_16 (Nat.le_of_ble_eq_true rfl) rfl) ?_
  refine mRun.go (q_aload_n dX2_readTraveller_18 rfl rfl) ?_
  refine mRun.go (q_getR dX2_readTraveller_19 fo_X2_30 hR.2.1 rfl) ?_
  refine mRun.go (q_iconst dX2_readTraveller_22) ?_
  refine mRun.go (q_callVi (r := 19) [mi 1] [] dX2_readTraveller_23 co_X2_94 ⟨Nat.le_of_ble_eq_true rfl, Nat.le_of_ble_eq_true rfl⟩ gw_323 gw_324 rfl hR.2.2.2.2.1 rfl rfl rfl (Nat.le_of_ble_eq_true rfl) (k_atE (v := K 20 1) hR.2.2.2.2 (by omega) (by decide) (rat_nat (k := 1) rfl (by decide)))) ?_
  refine mRun.go (q_istore (ls' := [some (mr 3), some (mr 1), some (mi s), some (mi E), some (mi (K 20 0)), some (mi (K 20 1)), none]) dX2_readTraveller_26 (Nat.le_of_ble_eq_true rfl) rfl) ?_
  refine mRun.go (q_aload_n dX2_readTraveller_28 rfl rfl) ?_
  refine mRun.go (q_getR dX2_readTraveller_29 fo_X2_30 hR.2.1 rfl) ?_
  refine mRun.go (q_iconst dX2_readTraveller_32) ?_
  refine mRun.go (q_callVi (r := 19) [mi 2] [] dX2_readTraveller_33 co_X2_94 ⟨Nat.le_of_ble_eq_true rfl, Nat.le_of_ble_eq_true rfl⟩ gw_323 gw_324 rfl hR.2.2.2.2.1 rfl rfl rfl (Nat.le_of_ble_eq_true rfl) (k_atE (v := K 20 2) hR.2.2.2.2 (by omega) (by decide) (rat_nat (k := 2) rfl (by decide)))) ?_
  refine mRun.go (q_istore (ls' := [some (mr 3), some (mr 1), some (mi s), some (mi E), some (mi (K 20 0)), some (mi (K 20 1)), some (mi (K 20 2))]) dX2_readTraveller_36 (Nat.le_of_ble_eq_true rfl) rfl) ?_
  refine mRun.go (q_iload_n dX2_readTraveller_38 rfl rfl) ?_
  refine mRun.go (q_iconst dX2_readTraveller_39) ?_
  refine r_icmp_eq (tgt := 79) dX2_readTraveller_40 (by decide) hEr (by omega) (fun c40 => ?_) (fun c40 => ?_)
  · refine mRun.go (q_iconst dX2_readTraveller_79) ?_
    refine r_iret dX2_readTraveller_80 rfl ?_
    have hno : (itT c R s) = (-1, R) := by
      unfold itT
      rw [if_neg (fun z => ?_)]
      rcases hend with q | ⟨q, q2, -⟩
      · rw [if_pos z.1] at hgE
        have z1 := a2.2.2.1 z.1.1; have z2 := a5 z.1.2.1; have z3 := a6 z.1.2.2
        omega
      · have hq := hvK q
        rw [show (19 + 1 : Nat) = 20 from rfl] at hq
        have z1 := a2.2.2.1 q.1; have z2 := a5 q.2.1; have z3 := a6 q.2.2
        (try split at *) <;> (try split at *) <;> (try split at *) <;> omega
    rw [hno]
    exact ⟨rfl, K, rfl, hK, fun r h => hfK r (by omega), fun z => absurd rfl z⟩
  · refine mRun.go (q_aload_n dX2_readTraveller_43 rfl rfl) ?_
    refine mRun.go (q_getR dX2_readTraveller_44 fo_X2_12 hR.2.1 rfl) ?_
    refine mRun.go (q_iload dX2_readTraveller_47 rfl) ?_
    have hh49 := @k_hasPlace σ K 4 (K 20 0) hR.2.2.1 hK (hK _ _)
    rw [h1] at hh49
    refine mRun.go (q_callVi (r := 4) [mi (K 20 0)] [] dX2_readTraveller_49 co_X2_107 ⟨Nat.le_of_ble_eq_true rfl, Nat.le_of_ble_eq_true rfl⟩ gw_335 gw_336 rfl hR.2.2.1.1 rfl rfl rfl (Nat.le_of_ble_eq_true rfl) hh49) ?_
    refine r_if_eq (tgt := 79) dX2_readTraveller_52 (by decide) (by split <;> omega) (fun c52 => ?_) (fun c52 => ?_)
    · refine mRun.go (q_iconst dX2_readTraveller_79) ?_
      refine r_iret dX2_readTraveller_80 rfl ?_
      have hno : (itT c R s) = (-1, R) := by
        unfold itT
        rw [if_neg (fun z => ?_)]
        rcases hend with q | ⟨q, q2, -⟩
        · rw [if_pos z.1] at hgE
          have z1 := a2.2.2.1 z.1.1; have z2 := a5 z.1.2.1; have z3 := a6 z.1.2.2
          omega
        · have hq := hvK q
          rw [show (19 + 1 : Nat) = 20 from rfl] at hq
          have z1 := a2.2.2.1 q.1; have z2 := a5 q.2.1; have z3 := a6 q.2.2
          (try split at *) <;> (try split at *) <;> (try split at *) <;> omega
      rw [hno]
      exact ⟨rfl, K, rfl, hK, fun r h => hfK r (by omega), fun z => absurd rfl z⟩
    · refine mRun.go (q_aload_n dX2_readTraveller_55 rfl rfl) ?_
      refine mRun.go (q_getR dX2_readTraveller_56 fo_X2_12 hR.2.1 rfl) ?_
      refine mRun.go (q_iload dX2_readTraveller_59 rfl) ?_
      have hh61 := @k_hasPlace σ K 4 (K 20 1) hR.2.2.1 hK (hK _ _)
      rw [h1] at hh61
      refine mRun.go (q_callVi (r := 4) [mi (K 20 1)] [] dX2_readTraveller_61 co_X2_107 ⟨Nat.le_of_ble_eq_true rfl, Nat.le_of_ble_eq_true rfl⟩ gw_335 gw_336 rfl hR.2.2.1.1 rfl rfl rfl (Nat.le_of_ble_eq_true rfl) hh61) ?_
      refine r_if_eq (tgt := 79) dX2_readTraveller_64 (by decide) (by split <;> omega) (fun c64 => ?_) (fun c64 => ?_)
      · refine mRun.go (q_iconst dX2_readTraveller_79) ?_
        refine r_iret dX2_readTraveller_80 rfl ?_
        have hno : (itT c R s) = (-1, R) := by
          unfold itT
          rw [if_neg (fun z => ?_)]
          rcases hend with q | ⟨q, q2, -⟩
          · rw [if_pos z.1] at hgE
            have z1 := a2.2.2.1 z.1.1; have z2 := a5 z.1.2.1; have z3 := a6 z.1.2.2
            omega
          · have hq := hvK q
            rw [show (19 + 1 : Nat) = 20 from rfl] at hq
            have z1 := a2.2.2.1 q.1; have z2 := a5 q.2.1; have z3 := a6 q.2.2
            (try split at *) <;> (try split at *) <;> (try split at *) <;> omega
        rw [hno]
        exact ⟨rfl, K, rfl, hK, fun r h => hfK r (by omega), fun z => absurd rfl z⟩
      · refine mRun.go (q_aload_n dX2_readTraveller_67 rfl rfl) ?_
        refine mRun.go (q_getR dX2_readTraveller_68 fo_X2_12 hR.2.1 rfl) ?_
        refine mRun.go (q_iload dX2_readTraveller_71 rfl) ?_
        have hh73 := @k_hasDrum σ K 4 (K 20 2) hR.2.2.1 hK (hK _ _)
        rw [h4] at hh73
        refine mRun.go (q_callVi (r := 4) [mi (K 20 2)] [] dX2_readTraveller_73 co_X2_103 ⟨Nat.le_of_ble_eq_true rfl, Nat.le_of_ble_eq_true rfl⟩ gw_331 gw_332 rfl hR.2.2.1.1 rfl rfl rfl (Nat.le_of_ble_eq_true rfl) hh73) ?_
        refine r_if_ne (tgt := 81) dX2_readTraveller_76 (by decide) (by split <;> omega) (fun c76 => ?_) (fun c76 => ?_)
        · refine mRun.go (q_aload_n dX2_readTraveller_81 rfl rfl) ?_
          refine mRun.go (q_getR dX2_readTraveller_82 fo_X2_12 hR.2.1 rfl) ?_
          refine mRun.go (q_getE (x := rNt R) dX2_readTraveller_85 fo_X2_114 hR.2.2.1.1 rfl h5) ?_
          refine mRun.go (q_iconst dX2_readTraveller_88) ?_
          refine r_icmp_lt (tgt := 94) dX2_readTraveller_89 (by decide) (by omega) (by omega) (fun c89 => ?_) (fun c89 => ?_)
          · refine mRun.go (q_aload_n dX2_readTraveller_94 rfl rfl) ?_
            refine mRun.go (q_getR dX2_readTraveller_95 fo_X2_21 hR.2.1 rfl) ?_
            refine mRun.go (q_aload_n dX2_readTraveller_98 rfl rfl) ?_
            refine mRun.go (q_getR dX2_readTraveller_99 fo_X2_12 hR.2.1 rfl) ?_
            refine mRun.go (q_getE (x := rNt R) dX2_readTraveller_102 fo_X2_114 hR.2.2.1.1 rfl h5) ?_
            have htn : rNt R = ((rNt R).toNat : Int) := by omega
            refine mRun.go (q_callVi (r := 11) [mi (rNt R)] [] dX2_readTraveller_105 co_X2_117 ⟨Nat.le_of_ble_eq_true rfl, Nat.le_of_ble_eq_true rfl⟩ gw_348 gw_349 rfl hR.2.2.2.1.1 rfl rfl rfl (Nat.le_of_ble_eq_true rfl) (k_whoE (t := (rNt R).toNat) hR.2.2.2.1 (by omega) htn)) ?_
            refine mRun.go (q_iload dX2_readTraveller_108 rfl) ?_
            refine mRun.go (q_iload dX2_readTraveller_110 rfl) ?_
            refine mRun.go (q_iload dX2_readTraveller_112 rfl) ?_
            have hst := @k_start σ K (11 + 4 + (rNt R).toNat) (K 20 0) (K 20 1) (K 20 2) (hR.2.2.2.1.2.2.2 _ (by omega)) hK (hK _ _) (hK _ _) (hK _ _)
            rw [startT_stv] at hst
            have hnst : Nrm (tset K (11 + 4 + (rNt R).toNat) (stv (K 20 0, K 20 1, K 20 2))) := nrm_tset hK (hK _ _) (hK _ _) (hK _ _) (by unfold stv; simp only; split <;> omega) (hK _ _) (by unfold stv; simp only; omega)
            refine mRun.go (q_callVv (r := 11 + 4 + (rNt R).toNat) [mi (K 20 0), mi (K 20 1), mi (K 20 2)] [] dX2_readTraveller_114 co_X2_121 ⟨Nat.le_of_ble_eq_true rfl, Nat.le_of_ble_eq_true rfl⟩ gw_352 gw_353 rfl (hR.2.2.2.1.2.2.2 ((rNt R).toNat) (by omega)) rfl rfl rfl (Nat.le_of_ble_eq_true rfl) hst) ?_
            refine mRun.go (q_aload_n dX2_readTraveller_117 rfl rfl) ?_
            refine mRun.go (q_getR dX2_readTraveller_118 fo_X2_12 hR.2.1 rfl) ?_
            refine mRun.go (q_dup dX2_readTraveller_121 rfl) ?_
            refine mRun.go (q_getE (x := rNt R) dX2_readTraveller_122 fo_X2_114 hR.2.2.1.1 rfl (by rw [tset_ne (by omega)]; exact h5)) ?_
            refine mRun.go (q_iconst dX2_readTraveller_125) ?_
            refine mRun.go (q_iadd dX2_readTraveller_126) ?_
            refine mRun.go (q_putI dX2_readTraveller_127 fo_X2_114 fp_1_7 hR.2.2.1.1 rfl) ?_
            refine mRun.go (q_iload_n dX2_readTraveller_130 rfl rfl) ?_
            refine r_iret dX2_readTraveller_131 rfl ?_
            rcases hend with q | ⟨q, q2, -⟩
            · exact absurd q (by omega)
            have hq := hvK q
            rw [show (19 + 1 : Nat) = 20 from rfl] at hq
            have hyes : ((nxt c s 44).1 ≠ -1 ∧ (n2 c s).1 ≠ -1 ∧ (n3 c s).1 ≠ -1) ∧ (nxt c s 44).1 < rPl R ∧ (n2 c s).1 < rPl R ∧ (n3 c s).1 < rDr R ∧ rNt R < 4 := ⟨q, by (first | omega | (split at * <;> omega) | ((try split at *) <;> (try split at *) <;> (try split at *) <;> omega)), by (first | omega | (split at * <;> omega) | ((try split at *) <;> (try split at *) <;> (try split at *) <;> omega)), by (first | omega | (split at * <;> omega) | ((try split at *) <;> (try split at *) <;> (try split at *) <;> omega)), by (first | omega | (split at * <;> omega) | ((try split at *) <;> (try split at *) <;> (try split at *) <;> omega))⟩
            unfold itT
            rw [if_pos hyes]
            refine ⟨by rw [← hgE, if_pos q], _, rfl, (nrm_mup hnst (by omega)), fun r h => ?_, fun _ => ?_⟩
            · rw [mup_nf (by omega)]; rw [← hfK r (by omega)]; funext j; exact tset_ne (by omega)
            · refine ⟨?_, ?_, ?_, ?_, by simp [mup], fun i hi => ?_, fun i hi => ?_, fun i hi => ?_, fun t ht => ?_, ?_, ?_⟩
              · rw [mup_ne2 (by decide), tset_ne (by omega)]; exact h1
              · rw [mup_ne2 (by decide), tset_ne (by omega)]; exact h2
              · rw [mup_ne2 (by decide), tset_ne (by omega)]; exact h3
              · rw [mup_ne2 (by decide), tset_ne (by omega)]; exact h4
              · rw [mup_ne (by decide), tset_ne (by omega)]; exact h6 i hi
              · rw [mup_ne (by decide), tset_ne (by omega)]; exact h7 i hi
              · rw [mup_ne (by decide), tset_ne (by omega)]; exact h8 i hi
              · have ht : (t : Int) < rNt R + 1 := ht
                show tget _ (15 + t) = stv (iup (rTv R) (rNt R) ((nxt c s 44).1, (n2 c s).1, (n3 c s).1) t)
                rw [tget_mup_ne (by omega)]
                by_cases htD : t = (rNt R).toNat
                · subst htD
                  have e : iup (rTv R) (rNt R) ((nxt c s 44).1, (n2 c s).1, (n3 c s).1) (((rNt R).toNat : Nat) : Int) = (K 20 0, K 20 1, K 20 2) := by unfold iup; rw [if_pos htn.symm, hq.1, hq.2.1, hq.2.2]
                  rw [e]
                  exact tget_tset
                · have e : iup (rTv R) (rNt R) ((nxt c s 44).1, (n2 c s).1, (n3 c s).1) (t : Int) = rTv R t := by unfold iup; rw [if_neg (by omega)]
                  rw [e, tget_tset_ne (by omega)]
                  exact h9 t (by omega)
              · rw [mup_ne (by decide), tset_ne (by omega)]; exact h10
              · rw [mup_ne (by decide), tset_ne (by omega)]; exact h11
          · refine mRun.go (q_iconst dX2_readTraveller_92) ?_
            refine r_iret dX2_readTraveller_93 rfl ?_
            have hno : (itT c R s) = (-1, R) := by
              unfold itT
              rw [if_neg (fun z => ?_)]
              rcases hend with q | ⟨q, q2, -⟩
              · rw [if_pos z.1] at hgE
                have z1 := a2.2.2.1 z.1.1; have z2 := a5 z.1.2.1; have z3 := a6 z.1.2.2
                omega
              · have hq := hvK q
                rw [show (19 + 1 : Nat) = 20 from rfl] at hq
                have z1 := a2.2.2.1 q.1; have z2 := a5 q.2.1; have z3 := a6 q.2.2
                (try split at *) <;> (try split at *) <;> (try split at *) <;> omega
            rw [hno]
            exact ⟨rfl, K, rfl, hK, fun r h => hfK r (by omega), fun z => absurd rfl z⟩
        · refine mRun.go (q_iconst dX2_readTraveller_79) ?_
          refine r_iret dX2_readTraveller_80 rfl ?_
          have hno : (itT c R s) = (-1, R) := by
            unfold itT
            rw [if_neg (fun z => ?_)]
            rcases hend with q | ⟨q, q2, -⟩
            · rw [if_pos z.1] at hgE
              have z1 := a2.2.2.1 z.1.1; have z2 := a5 z.1.2.1; have z3 := a6 z.1.2.2
              omega
            · have hq := hvK q
              rw [show (19 + 1 : Nat) = 20 from rfl] at hq
              have z1 := a2.2.2.1 q.1; have z2 := a5 q.2.1; have z3 := a6 q.2.2
              (try split at *) <;> (try split at *) <;> (try split at *) <;> omega
          rw [hno]
          exact ⟨rfl, K, rfl, hK, fun r h => hfK r (by omega), fun z => absurd rfl z⟩
