/-! ===== the reader of the class ===== -/
def IsRd (σ : List mC) : Prop := IsText σ 1 ∧ σ[3]? = some (.inl (2, [some (some 4), some (some 11), some (some 19)])) ∧ IsLand σ 4 ∧ IsForest σ 11 ∧ IsRow σ 19 3
def TXt (J : mI) (c : Int → Int) (L : Int) : Prop := (0 ≤ L ∧ L ≤ 200) ∧ J 1 1 = L ∧ (∀ i, tla J 1 i = c i) ∧ ∀ i, -2147483648 ≤ c i ∧ c i < 2147483648
theorem TXt.fr {I J : mI} {c : Int → Int} {L : Int} (h : TXt I c L) (h1 : J 1 = I 1) (h2 : J 2 = I 2) : TXt J c L := by
  refine ⟨h.1, by rw [h1]; exact h.2.1, fun i => ?_, h.2.2.2⟩
  rw [← h.2.2.1 i]
  simp only [tla, h1]
  rw [show J (1 + 1) = I (1 + 1) from h2]
theorem k_letC {σ : List mC} {J : mI} {c : Int → Int} {L i : Int} (hR : IsRd σ) (hJ : Nrm J) (hT : TXt J c L) (hi : -2147483648 ≤ i ∧ i < 2147483648) : mCt mX5_letterAt [mr 1, mi i] (σ, J) (some (mi (c i))) (σ, J) := by
  have h := @k_letterAt σ J 1 i hR.1 hJ (by rw [hT.2.1]; exact hT.1) hi
  rw [hT.2.2.1 i] at h
  exact h
/-- the heap of the reader: what it may write -/
def Fr25 (I J : mI) : Prop := ∀ r, (r < 3 ∨ 20 < r) → J r = I r
theorem fr25_rf {I : mI} : Fr25 I I := fun _ _ => rfl
theorem fr25_tr {I J K : mI} (a : Fr25 I J) (b : Fr25 J K) : Fr25 I K := fun r h => (b r h).trans (a r h)
theorem fr25_mup {I J : mI} {q k : Nat} {x : Int} (a : Fr25 I J) (h : 3 ≤ q ∧ q ≤ 20) : Fr25 I (mup J q k x) := fun r hr => by rw [mup_nf (by omega)]; exact a r hr

set_option maxRecDepth 100000 in
theorem k_readN1 {σ : List mC} {J : mI} {c : Int → Int} {L s : Int} (hR : IsRd σ) (hJ : Nrm J) (hT : TXt J c L) (hs : -1000 ≤ s ∧ s ≤ 1000) : mMt mX2_readNumbers [mr 3, mr 1, mi s, mi 1] (σ, J) (fun v h => v = some (mi (if (nxt c s 59).1 ≠ -1 then (nxt c s 59).2 else -1)) ∧ ∃ K, h = (σ, K) ∧ Nrm K ∧ (∀ r, r ≠ 19 + 1 → K r = J r) ∧ ((nxt c s 59).1 ≠ -1 → K (19 + 1) 0 = (nxt c s 59).1)) := by
  refine mMt.of pl_2 (Nat.le_of_ble_eq_true rfl) ?_
  show mRun mZt mX2_readNumbers 0 [some (mr 3), some (mr 1), some (mi s), some (mi 1), none, none, none, none] [] (σ, J) _
  refine mRun.go (q_iload_n dX2_readNumbers_0 rfl rfl) ?_
  refine mRun.go (q_istore (ls' := [some (mr 3), some (mr 1), some (mi s), some (mi 1), some (mi s), none, none, none]) dX2_readNumbers_1 (Nat.le_of_ble_eq_true rfl) rfl) ?_
  refine mRun.go (q_iconst dX2_readNumbers_3) ?_
  refine mRun.go (q_istore (ls' := [some (mr 3), some (mr 1), some (mi s), some (mi 1), some (mi s), some (mi 0), none, none]) dX2_readNumbers_4 (Nat.le_of_ble_eq_true rfl) rfl) ?_
  refine mRun.go (q_iload dX2_readNumbers_6 rfl) ?_
  refine mRun.go (q_iload_n dX2_readNumbers_8 rfl rfl) ?_
  refine mRun.go (q_icmp_ge_f (tgt := 110) dX2_readNumbers_9 (by decide) (by omega) (by omega) (by decide)) ?_
  have hn0 := num_rng c (s)
  have hf0 := fig_rng (c (s))
  have hg0 := fig_rng (c (s + 1))
  refine mRun.go (q_aload_n dX2_readNumbers_12 rfl rfl) ?_
  refine mRun.go (q_iload dX2_readNumbers_13 rfl) ?_
  refine mRun.go (q_callVi (r := 1) [mi s] [] dX2_readNumbers_15 co_X2_48 ⟨Nat.le_of_ble_eq_true rfl, Nat.le_of_ble_eq_true rfl⟩ gw_297 gw_298 rfl hR.1.1 rfl rfl rfl (Nat.le_of_ble_eq_true rfl) (k_letC hR hJ hT (by omega))) ?_
  refine mRun.go (q_callSi [mi (c s)] [] dX2_readNumbers_18 co_X2_67 ⟨Nat.le_of_ble_eq_true rfl, Nat.le_of_ble_eq_true rfl⟩ gw_305 rfl rfl (Nat.le_of_ble_eq_true rfl) (k_figureOf (hT.2.2.2 _))) ?_
  refine mRun.go (q_istore (ls' := [some (mr 3), some (mr 1), some (mi s), some (mi 1), some (mi s), some (mi 0), some (mi (fig (c s))), none]) dX2_readNumbers_21 (Nat.le_of_ble_eq_true rfl) rfl) ?_
  refine mRun.go (q_iload dX2_readNumbers_23 rfl) ?_
  refine mRun.go (q_iconst dX2_readNumbers_25) ?_
  refine r_icmp_ne (tgt := 31) dX2_readNumbers_26 (by decide) (by have := fig_rng (c s); omega) (by omega) (fun c26 => ?_) (fun c26 => ?_)
  · refine mRun.go (q_iinc (ls' := [some (mr 3), some (mr 1), some (mi s), some (mi 1), some (mi (s + 1)), some (mi 0), some (mi (fig (c s))), none]) dX2_readNumbers_31 rfl (Nat.le_of_ble_eq_true rfl) rfl) ?_
    refine mRun.go (q_aload_n dX2_readNumbers_34 rfl rfl) ?_
    refine mRun.go (q_iload dX2_readNumbers_35 rfl) ?_
    refine mRun.go (q_callVi (r := 1) [mi (s + 1)] [] dX2_readNumbers_37 co_X2_48 ⟨Nat.le_of_ble_eq_true rfl, Nat.le_of_ble_eq_true rfl⟩ gw_297 gw_298 rfl hR.1.1 rfl rfl rfl (Nat.le_of_ble_eq_true rfl) (k_letC hR hJ hT (by omega))) ?_
    refine mRun.go (q_callSi [mi (c (s + 1))] [] dX2_readNumbers_40 co_X2_67 ⟨Nat.le_of_ble_eq_true rfl, Nat.le_of_ble_eq_true rfl⟩ gw_305 rfl rfl (Nat.le_of_ble_eq_true rfl) (k_figureOf (hT.2.2.2 _))) ?_
    refine mRun.go (q_istore (ls' := [some (mr 3), some (mr 1), some (mi s), some (mi 1), some (mi (s + 1)), some (mi 0), some (mi (fig (c s))), some (mi (fig (c (s + 1))))]) dX2_readNumbers_43 (Nat.le_of_ble_eq_true rfl) rfl) ?_
    refine mRun.go (q_iload dX2_readNumbers_45 rfl) ?_
    refine mRun.go (q_iconst dX2_readNumbers_47) ?_
    have j48 : ∀ {post : Option mV → mH → Prop}, mRun mZt mX2_readNumbers 64 [some (mr 3), some (mr 1), some (mi s), some (mi 1), some (mi ((num c s).2)), some (mi 0), some (mi ((num c s).1)), some (mi (fig (c (s + 1))))] [] (σ, J) post → mRun mZt mX2_readNumbers 48 [some (mr 3), some (mr 1), some (mi s), some (mi 1), some (mi (s + 1)), some (mi 0), some (mi (fig (c s))), some (mi (fig (c (s + 1))))] [mi (-1), mi (fig (c (s + 1)))] (σ, J) post := by
      intro post k
      refine r_icmp_eq (tgt := 64) dX2_readNumbers_48 (by decide) (by have := fig_rng (c (s + 1)); omega) (by omega) (fun c48 => ?_) (fun c48 => ?_)
      · have e : num c s = (fig (c s), s + 1) := by unfold num; rw [if_neg (by omega), if_pos (by omega)]
        rw [e] at k
        exact k
      · refine mRun.go (q_iload dX2_readNumbers_51 rfl) ?_
        refine mRun.go (q_bipush dX2_readNumbers_53 (by decide)) ?_
        refine mRun.go (q_imul dX2_readNumbers_55) ?_
        refine mRun.go (q_iload dX2_readNumbers_56 rfl) ?_
        refine mRun.go (q_iadd dX2_readNumbers_58) ?_
        refine mRun.go (q_istore (ls' := [some (mr 3), some (mr 1), some (mi s), some (mi 1), some (mi (s + 1)), some (mi 0), some (mi (((fig (c s)) * 10) + (fig (c (s + 1))))), some (mi (fig (c (s + 1))))]) dX2_readNumbers_59 (Nat.le_of_ble_eq_true rfl) rfl) ?_
        refine mRun.go (q_iinc (ls' := [some (mr 3), some (mr 1), some (mi s), some (mi 1), some (mi ((s + 1) + 1)), some (mi 0), some (mi (((fig (c s)) * 10) + (fig (c (s + 1))))), some (mi (fig (c (s + 1))))]) dX2_readNumbers_61 rfl (Nat.le_of_ble_eq_true rfl) rfl) ?_
        have e : num c s = (fig (c s) * 10 + fig (c (s + 1)), s + 2) := by unfold num; rw [if_neg (by omega), if_neg (by omega)]
        rw [e] at k
        rw [show s + 1 + 1 = s + 2 by omega]
        exact k
    refine j48 ?_
    have hne0 : ¬ (num c s).1 = -1 := by unfold num; rw [if_neg (by omega)]; split <;> (simp only; omega)
    refine mRun.go (q_aload_n dX2_readNumbers_64 rfl rfl) ?_
    refine mRun.go (q_iload dX2_readNumbers_65 rfl) ?_
    refine mRun.go (q_callVi (r := 1) [mi ((num c s).2)] [] dX2_readNumbers_67 co_X2_48 ⟨Nat.le_of_ble_eq_true rfl, Nat.le_of_ble_eq_true rfl⟩ gw_297 gw_298 rfl hR.1.1 rfl rfl rfl (Nat.le_of_ble_eq_true rfl) (k_letC hR hJ hT (by omega))) ?_
    refine mRun.go (q_iload dX2_readNumbers_70 rfl) ?_
    refine mRun.go (q_iconst dX2_readNumbers_72) ?_
    refine mRun.go (q_iadd dX2_readNumbers_73) ?_
    refine mRun.go (q_iload_n dX2_readNumbers_74 rfl rfl) ?_
    refine mRun.go (q_icmp_ge_t (tgt := 83) dX2_readNumbers_75 (by decide) (by omega) (by omega) (by decide)) ?_
    refine mRun.go (q_bipush dX2_readNumbers_83 (by decide)) ?_
    refine r_icmp_eq (tgt := 90) dX2_readNumbers_85 (by decide) (hT.2.2.2 _) (by omega) (fun c85 => ?_) (fun c85 => ?_)
    · refine mRun.go (q_iinc (ls' := [some (mr 3), some (mr 1), some (mi s), some (mi 1), some (mi (((num c s).2) + 1)), some (mi 0), some (mi ((num c s).1)), some (mi (fig (c (s + 1))))]) dX2_readNumbers_90 rfl (Nat.le_of_ble_eq_true rfl) rfl) ?_
      refine mRun.go (q_aload_n dX2_readNumbers_93 rfl rfl) ?_
      refine mRun.go (q_getR dX2_readNumbers_94 fo_X2_30 hR.2.1 rfl) ?_
      refine mRun.go (q_iload dX2_readNumbers_97 rfl) ?_
      refine mRun.go (q_iload dX2_readNumbers_99 rfl) ?_
      have hT0 : TXt (mup J (19 + 1) 0 ((num c s).1)) c L := TXt.fr hT (mup_nf (by decide)) (mup_nf (by decide))
      refine mRun.go (q_callVv (r := 19) [mi 0, mi ((num c s).1)] [] dX2_readNumbers_101 co_X2_80 ⟨Nat.le_of_ble_eq_true rfl, Nat.le_of_ble_eq_true rfl⟩ gw_311 gw_312 rfl hR.2.2.2.2.1 rfl rfl rfl (Nat.le_of_ble_eq_true rfl) (k_putE (J := mup J (19 + 1) 0 ((num c s).1)) hR.2.2.2.2 (by omega) (by decide) (rput_nat (k := 0) (by omega) (by decide)))) ?_
      refine mRun.go (q_iinc (ls' := [some (mr 3), some (mr 1), some (mi s), some (mi 1), some (mi (((num c s).2) + 1)), some (mi (0 + 1)), some (mi ((num c s).1)), some (mi (fig (c (s + 1))))]) dX2_readNumbers_104 rfl (Nat.le_of_ble_eq_true rfl) rfl) ?_
      refine mRun.go (q_goto (tgt := 6) dX2_readNumbers_107 (by decide)) ?_
      have hx0 : nxt c s 59 = ((num c s).1, (num c s).2 + 1) := nxt_ok hne0 (by omega)
      have hv0 : (nxt c s 59).1 = (num c s).1 ∧ (nxt c s 59).2 = (num c s).2 + 1 := by rw [hx0]; exact ⟨rfl, rfl⟩
      rw [← hv0.2]
      refine mRun.go (q_iload dX2_readNumbers_6 rfl) ?_
      refine mRun.go (q_iload_n dX2_readNumbers_8 rfl rfl) ?_
      refine mRun.go (q_icmp_ge_t (tgt := 110) dX2_readNumbers_9 (by decide) (by omega) (by omega) (by decide)) ?_
      refine mRun.go (q_iload dX2_readNumbers_110 rfl) ?_
      refine r_iret dX2_readNumbers_112 rfl ?_
      refine ⟨?_, _, rfl, (nrm_mup hJ (by omega)), ?_, ?_⟩
      · rw [if_pos (by omega)]
      · intro r hr; rw [mup_nf hr]
      · intro _; simp [mup]; omega
    · refine mRun.go (q_iconst dX2_readNumbers_88) ?_
      refine r_iret dX2_readNumbers_89 rfl ?_
      have hx : nxt c s 59 = (-1, -1) := nxt_no (Or.inr (by omega))
      have hq : (nxt c s 59).1 = -1 := by rw [hx]
      refine ⟨?_, _, rfl, hJ, ?_, ?_⟩
      · rw [if_neg (by omega)]
      · intro r hr; rfl
      · intro z; omega
  · refine mRun.go (q_iconst dX2_readNumbers_29) ?_
    refine r_iret dX2_readNumbers_30 rfl ?_
    have hx : nxt c s 59 = (-1, -1) := nxt_no (Or.inl (by unfold num; rw [if_pos (by omega)]))
    have hq : (nxt c s 59).1 = -1 := by rw [hx]
    refine ⟨?_, _, rfl, hJ, ?_, ?_⟩
    · rw [if_neg (by omega)]
    · intro r hr; rfl
    · intro z; omega

set_option maxRecDepth 100000 in
theorem k_readN3 {σ : List mC} {J : mI} {c : Int → Int} {L s : Int} (hR : IsRd σ) (hJ : Nrm J) (hT : TXt J c L) (hs : -1000 ≤ s ∧ s ≤ 1000) : mMt mX2_readNumbers [mr 3, mr 1, mi s, mi 3] (σ, J) (fun v h => v = some (mi (if ((nxt c s 44).1 ≠ -1 ∧ (n2 c s).1 ≠ -1 ∧ (n3 c s).1 ≠ -1) then (n3 c s).2 else -1)) ∧ ∃ K, h = (σ, K) ∧ Nrm K ∧ (∀ r, r ≠ 19 + 1 → K r = J r) ∧ (((nxt c s 44).1 ≠ -1 ∧ (n2 c s).1 ≠ -1 ∧ (n3 c s).1 ≠ -1) → K (19 + 1) 0 = (nxt c s 44).1 ∧ K (19 + 1) 1 = (n2 c s).1 ∧ K (19 + 1) 2 = (n3 c s).1)) := by
  refine mMt.of pl_2 (Nat.le_of_ble_eq_true rfl) ?_
  show mRun mZt mX2_readNumbers 0 [some (mr 3), some (mr 1), some (mi s), some (mi 3), none, none, none, none] [] (σ, J) _
  refine mRun.go (q_iload_n dX2_readNumbers_0 rfl rfl) ?_
  refine mRun.go (q_istore (ls' := [some (mr 3), some (mr 1), some (mi s), some (mi 3), some (mi s), none, none, none]) dX2_readNumbers_1 (Nat.le_of_ble_eq_true rfl) rfl) ?_
  refine mRun.go (q_iconst dX2_readNumbers_3) ?_
  refine mRun.go (q_istore (ls' := [some (mr 3), some (mr 1), some (mi s), some (mi 3), some (mi s), some (mi 0), none, none]) dX2_readNumbers_4 (Nat.le_of_ble_eq_true rfl) rfl) ?_
  refine mRun.go (q_iload dX2_readNumbers_6 rfl) ?_
  refine mRun.go (q_iload_n dX2_readNumbers_8 rfl rfl) ?_
  refine mRun.go (q_icmp_ge_f (tgt := 110) dX2_readNumbers_9 (by decide) (by omega) (by omega) (by decide)) ?_
  have hn0 := num_rng c (s)
  have hf0 := fig_rng (c (s))
  have hg0 := fig_rng (c (s + 1))
  refine mRun.go (q_aload_n dX2_readNumbers_12 rfl rfl) ?_
  refine mRun.go (q_iload dX2_readNumbers_13 rfl) ?_
  refine mRun.go (q_callVi (r := 1) [mi s] [] dX2_readNumbers_15 co_X2_48 ⟨Nat.le_of_ble_eq_true rfl, Nat.le_of_ble_eq_true rfl⟩ gw_297 gw_298 rfl hR.1.1 rfl rfl rfl (Nat.le_of_ble_eq_true rfl) (k_letC hR hJ hT (by omega))) ?_
  refine mRun.go (q_callSi [mi (c s)] [] dX2_readNumbers_18 co_X2_67 ⟨Nat.le_of_ble_eq_true rfl, Nat.le_of_ble_eq_true rfl⟩ gw_305 rfl rfl (Nat.le_of_ble_eq_true rfl) (k_figureOf (hT.2.2.2 _))) ?_
  refine mRun.go (q_istore (ls' := [some (mr 3), some (mr 1), some (mi s), some (mi 3), some (mi s), some (mi 0), some (mi (fig (c s))), none]) dX2_readNumbers_21 (Nat.le_of_ble_eq_true rfl) rfl) ?_
  refine mRun.go (q_iload dX2_readNumbers_23 rfl) ?_
  refine mRun.go (q_iconst dX2_readNumbers_25) ?_
  refine r_icmp_ne (tgt := 31) dX2_readNumbers_26 (by decide) (by have := fig_rng (c s); omega) (by omega) (fun c26 => ?_) (fun c26 => ?_)
  · refine mRun.go (q_iinc (ls' := [some (mr 3), some (mr 1), some (mi s), some (mi 3), some (mi (s + 1)), some (mi 0), some (mi (fig (c s))), none]) dX2_readNumbers_31 rfl (Nat.le_of_ble_eq_true rfl) rfl) ?_
    refine mRun.go (q_aload_n dX2_readNumbers_34 rfl rfl) ?_
    refine mRun.go (q_iload dX2_readNumbers_35 rfl) ?_
    refine mRun.go (q_callVi (r := 1) [mi (s + 1)] [] dX2_readNumbers_37 co_X2_48 ⟨Nat.le_of_ble_eq_true rfl, Nat.le_of_ble_eq_true rfl⟩ gw_297 gw_298 rfl hR.1.1 rfl rfl rfl (Nat.le_of_ble_eq_true rfl) (k_letC hR hJ hT (by omega))) ?_
    refine mRun.go (q_callSi [mi (c (s + 1))] [] dX2_readNumbers_40 co_X2_67 ⟨Nat.le_of_ble_eq_true rfl, Nat.le_of_ble_eq_true rfl⟩ gw_305 rfl rfl (Nat.le_of_ble_eq_true rfl) (k_figureOf (hT.2.2.2 _))) ?_
    refine mRun.go (q_istore (ls' := [some (mr 3), some (mr 1), some (mi s), some (mi 3), some (mi (s + 1)), some (mi 0), some (mi (fig (c s))), some (mi (fig (c (s + 1))))]) dX2_readNumbers_43 (Nat.le_of_ble_eq_true rfl) rfl) ?_
    refine mRun.go (q_iload dX2_readNumbers_45 rfl) ?_
    refine mRun.go (q_iconst dX2_readNumbers_47) ?_
    have j48 : ∀ {post : Option mV → mH → Prop}, mRun mZt mX2_readNumbers 64 [some (mr 3), some (mr 1), some (mi s), some (mi 3), some (mi ((num c s).2)), some (mi 0), some (mi ((num c s).1)), some (mi (fig (c (s + 1))))] [] (σ, J) post → mRun mZt mX2_readNumbers 48 [some (mr 3), some (mr 1), some (mi s), some (mi 3), some (mi (s + 1)), some (mi 0), some (mi (fig (c s))), some (mi (fig (c (s + 1))))] [mi (-1), mi (fig (c (s + 1)))] (σ, J) post := by
      intro post k
      refine r_icmp_eq (tgt := 64) dX2_readNumbers_48 (by decide) (by have := fig_rng (c (s + 1)); omega) (by omega) (fun c48 => ?_) (fun c48 => ?_)
      · have e : num c s = (fig (c s), s + 1) := by unfold num; rw [if_neg (by omega), if_pos (by omega)]
        rw [e] at k
        exact k
      · refine mRun.go (q_iload dX2_readNumbers_51 rfl) ?_
        refine mRun.go (q_bipush dX2_readNumbers_53 (by decide)) ?_
        refine mRun.go (q_imul dX2_readNumbers_55) ?_
        refine mRun.go (q_iload dX2_readNumbers_56 rfl) ?_
        refine mRun.go (q_iadd dX2_readNumbers_58) ?_
        refine mRun.go (q_istore (ls' := [some (mr 3), some (mr 1), some (mi s), some (mi 3), some (mi (s + 1)), some (mi 0), some (mi (((fig (c s)) * 10) + (fig (c (s + 1))))), some (mi (fig (c (s + 1))))]) dX2_readNumbers_59 (Nat.le_of_ble_eq_true rfl) rfl) ?_
        refine mRun.go (q_iinc (ls' := [some (mr 3), some (mr 1), some (mi s), some (mi 3), some (mi ((s + 1) + 1)), some (mi 0), some (mi (((fig (c s)) * 10) + (fig (c (s + 1))))), some (mi (fig (c (s + 1))))]) dX2_readNumbers_61 rfl (Nat.le_of_ble_eq_true rfl) rfl) ?_
        have e : num c s = (fig (c s) * 10 + fig (c (s + 1)), s + 2) := by unfold num; rw [if_neg (by omega), if_neg (by omega)]
        rw [e] at k
        rw [show s + 1 + 1 = s + 2 by omega]
        exact k
    refine j48 ?_
    have hne0 : ¬ (num c s).1 = -1 := by unfold num; rw [if_neg (by omega)]; split <;> (simp only; omega)
    refine mRun.go (q_aload_n dX2_readNumbers_64 rfl rfl) ?_
    refine mRun.go (q_iload dX2_readNumbers_65 rfl) ?_
    refine mRun.go (q_callVi (r := 1) [mi ((num c s).2)] [] dX2_readNumbers_67 co_X2_48 ⟨Nat.le_of_ble_eq_true rfl, Nat.le_of_ble_eq_true rfl⟩ gw_297 gw_298 rfl hR.1.1 rfl rfl rfl (Nat.le_of_ble_eq_true rfl) (k_letC hR hJ hT (by omega))) ?_
    refine mRun.go (q_iload dX2_readNumbers_70 rfl) ?_
    refine mRun.go (q_iconst dX2_readNumbers_72) ?_
    refine mRun.go (q_iadd dX2_readNumbers_73) ?_
    refine mRun.go (q_iload_n dX2_readNumbers_74 rfl rfl) ?_
    refine mRun.go (q_icmp_ge_f (tgt := 83) dX2_readNumbers_75 (by decide) (by omega) (by omega) (by decide)) ?_
    refine mRun.go (q_bipush dX2_readNumbers_78 (by decide)) ?_
    refine mRun.go (q_goto (tgt := 85) dX2_readNumbers_80 (by decide)) ?_
    refine r_icmp_eq (tgt := 90) dX2_readNumbers_85 (by decide) (hT.2.2.2 _) (by omega) (fun c85 => ?_) (fun c85 => ?_)
    · refine mRun.go (q_iinc (ls' := [some (mr 3), some (mr 1), some (mi s), some (mi 3), some (mi (((num c s).2) + 1)), some (mi 0), some (mi ((num c s).1)), some (mi (fig (c (s + 1))))]) dX2_readNumbers_90 rfl (Nat.le_of_ble_eq_true rfl) rfl) ?_
      refine mRun.go (q_aload_n dX2_readNumbers_93 rfl rfl) ?_
      refine mRun.go (q_getR dX2_readNumbers_94 fo_X2_30 hR.2.1 rfl) ?_
      refine mRun.go (q_iload dX2_readNumbers_97 rfl) ?_
      refine mRun.go (q_iload dX2_readNumbers_99 rfl) ?_
      have hT0 : TXt (mup J (19 + 1) 0 ((num c s).1)) c L := TXt.fr hT (mup_nf (by decide)) (mup_nf (by decide))
      refine mRun.go (q_callVv (r := 19) [mi 0, mi ((num c s).1)] [] dX2_readNumbers_101 co_X2_80 ⟨Nat.le_of_ble_eq_true rfl, Nat.le_of_ble_eq_true rfl⟩ gw_311 gw_312 rfl hR.2.2.2.2.1 rfl rfl rfl (Nat.le_of_ble_eq_true rfl) (k_putE (J := mup J (19 + 1) 0 ((num c s).1)) hR.2.2.2.2 (by omega) (by decide) (rput_nat (k := 0) (by omega) (by decide)))) ?_
      refine mRun.go (q_iinc (ls' := [some (mr 3), some (mr 1), some (mi s), some (mi 3), some (mi (((num c s).2) + 1)), some (mi (0 + 1)), some (mi ((num c s).1)), some (mi (fig (c (s + 1))))]) dX2_readNumbers_104 rfl (Nat.le_of_ble_eq_true rfl) rfl) ?_
      refine mRun.go (q_goto (tgt := 6) dX2_readNumbers_107 (by decide)) ?_
      have hx0 : nxt c s 44 = ((num c s).1, (num c s).2 + 1) := nxt_ok hne0 (by omega)
      have hv0 : (nxt c s 44).1 = (num c s).1 ∧ (nxt c s 44).2 = (num c s).2 + 1 := by rw [hx0]; exact ⟨rfl, rfl⟩
      rw [← hv0.2]
      refine mRun.go (q_iload dX2_readNumbers_6 rfl) ?_
      refine mRun.go (q_iload_n dX2_readNumbers_8 rfl rfl) ?_
      refine mRun.go (q_icmp_ge_f (tgt := 110) dX2_readNumbers_9 (by decide) (by omega) (by omega) (by decide)) ?_
      have hn1 := num_rng c ((nxt c s 44).2)
      have hf1 := fig_rng (c ((nxt c s 44).2))
      have hg1 := fig_rng (c ((nxt c s 44).2 + 1))
      refine mRun.go (q_aload_n dX2_readNumbers_12 rfl rfl) ?_
      refine mRun.go (q_iload dX2_readNumbers_13 rfl) ?_
      refine mRun.go (q_callVi (r := 1) [mi ((nxt c s 44).2)] [] dX2_readNumbers_15 co_X2_48 ⟨Nat.le_of_ble_eq_true rfl, Nat.le_of_ble_eq_true rfl⟩ gw_297 gw_298 rfl hR.1.1 rfl rfl rfl (Nat.le_of_ble_eq_true rfl) (k_letC hR (nrm_mup hJ (by omega)) hT0 (by omega))) ?_
      refine mRun.go (q_callSi [mi (c ((nxt c s 44).2))] [] dX2_readNumbers_18 co_X2_67 ⟨Nat.le_of_ble_eq_true rfl, Nat.le_of_ble_eq_true rfl⟩ gw_305 rfl rfl (Nat.le_of_ble_eq_true rfl) (k_figureOf (hT0.2.2.2 _))) ?_
      refine mRun.go (q_istore (ls' := [some (mr 3), some (mr 1), some (mi s), some (mi 3), some (mi ((nxt c s 44).2)), some (mi (0 + 1)), some (mi (fig (c ((nxt c s 44).2)))), some (mi (fig (c (s + 1))))]) dX2_readNumbers_21 (Nat.le_of_ble_eq_true rfl) rfl) ?_
      refine mRun.go (q_iload dX2_readNumbers_23 rfl) ?_
      refine mRun.go (q_iconst dX2_readNumbers_25) ?_
      refine r_icmp_ne (tgt := 31) dX2_readNumbers_26 (by decide) (by have := fig_rng (c ((nxt c s 44).2)); omega) (by omega) (fun c26 => ?_) (fun c26 => ?_)
      · refine mRun.go (q_iinc (ls' := [some (mr 3), some (mr 1), some (mi s), some (mi 3), some (mi (((nxt c s 44).2) + 1)), some (mi (0 + 1)), some (mi (fig (c ((nxt c s 44).2)))), some (mi (fig (c (s + 1))))]) dX2_readNumbers_31 rfl (Nat.le_of_ble_eq_true rfl) rfl) ?_
        refine mRun.go (q_aload_n dX2_readNumbers_34 rfl rfl) ?_
        refine mRun.go (q_iload dX2_readNumbers_35 rfl) ?_
        refine mRun.go (q_callVi (r := 1) [mi (((nxt c s 44).2) + 1)] [] dX2_readNumbers_37 co_X2_48 ⟨Nat.le_of_ble_eq_true rfl, Nat.le_of_ble_eq_true rfl⟩ gw_297 gw_298 rfl hR.1.1 rfl rfl rfl (Nat.le_of_ble_eq_true rfl) (k_letC hR (nrm_mup hJ (by omega)) hT0 (by omega))) ?_
        refine mRun.go (q_callSi [mi (c (((nxt c s 44).2) + 1))] [] dX2_readNumbers_40 co_X2_67 ⟨Nat.le_of_ble_eq_true rfl, Nat.le_of_ble_eq_true rfl⟩ gw_305 rfl rfl (Nat.le_of_ble_eq_true rfl) (k_figureOf (hT0.2.2.2 _))) ?_
        refine mRun.go (q_istore (ls' := [some (mr 3), some (mr 1), some (mi s), some (mi 3), some (mi (((nxt c s 44).2) + 1)), some (mi (0 + 1)), some (mi (fig (c ((nxt c s 44).2)))), some (mi (fig (c (((nxt c s 44).2) + 1))))]) dX2_readNumbers_43 (Nat.le_of_ble_eq_true rfl) rfl) ?_
        refine mRun.go (q_iload dX2_readNumbers_45 rfl) ?_
        refine mRun.go (q_iconst dX2_readNumbers_47) ?_
        have j48 : ∀ {post : Option mV → mH → Prop}, mRun mZt mX2_readNumbers 64 [some (mr 3), some (mr 1), some (mi s), some (mi 3), some (mi ((num c ((nxt c s 44).2)).2)), some (mi (0 + 1)), some (mi ((num c ((nxt c s 44).2)).1)), some (mi (fig (c (((nxt c s 44).2) + 1))))] [] (σ, mup J (19 + 1) 0 ((num c s).1)) post → mRun mZt mX2_readNumbers 48 [some (mr 3), some (mr 1), some (mi s), some (mi 3), some (mi (((nxt c s 44).2) + 1)), some (mi (0 + 1)), some (mi (fig (c ((nxt c s 44).2)))), some (mi (fig (c (((nxt c s 44).2) + 1))))] [mi (-1), mi (fig (c (((nxt c s 44).2) + 1)))] (σ, mup J (19 + 1) 0 ((num c s).1)) post := by
          intro post k
          refine r_icmp_eq (tgt := 64) dX2_readNumbers_48 (by decide) (by have := fig_rng (c (((nxt c s 44).2) + 1)); omega) (by omega) (fun c48 => ?_) (fun c48 => ?_)
          · have e : num c ((nxt c s 44).2) = (fig (c ((nxt c s 44).2)), (nxt c s 44).2 + 1) := by unfold num; rw [if_neg (by omega), if_pos (by omega)]
            rw [e] at k
            exact k
          · refine mRun.go (q_iload dX2_readNumbers_51 rfl) ?_
            refine mRun.go (q_bipush dX2_readNumbers_53 (by decide)) ?_
            refine mRun.go (q_imul dX2_readNumbers_55) ?_
            refine mRun.go (q_iload dX2_readNumbers_56 rfl) ?_
            refine mRun.go (q_iadd dX2_readNumbers_58) ?_
            refine mRun.go (q_istore (ls' := [some (mr 3), some (mr 1), some (mi s), some (mi 3), some (mi (((nxt c s 44).2) + 1)), some (mi (0 + 1)), some (mi (((fig (c ((nxt c s 44).2))) * 10) + (fig (c (((nxt c s 44).2) + 1))))), some (mi (fig (c (((nxt c s 44).2) + 1))))]) dX2_readNumbers_59 (Nat.le_of_ble_eq_true rfl) rfl) ?_
            refine mRun.go (q_iinc (ls' := [some (mr 3), some (mr 1), some (mi s), some (mi 3), some (mi ((((nxt c s 44).2) + 1) + 1)), some (mi (0 + 1)), some (mi (((fig (c ((nxt c s 44).2))) * 10) + (fig (c (((nxt c s 44).2) + 1))))), some (mi (fig (c (((nxt c s 44).2) + 1))))]) dX2_readNumbers_61 rfl (Nat.le_of_ble_eq_true rfl) rfl) ?_
            have e : num c ((nxt c s 44).2) = (fig (c ((nxt c s 44).2)) * 10 + fig (c ((nxt c s 44).2 + 1)), (nxt c s 44).2 + 2) := by unfold num; rw [if_neg (by omega), if_neg (by omega)]
            rw [e] at k
            rw [show (nxt c s 44).2 + 1 + 1 = (nxt c s 44).2 + 2 by omega]
            exact k
        refine j48 ?_
        have hne1 : ¬ (num c ((nxt c s 44).2)).1 = -1 := by unfold num; rw [if_neg (by omega)]; split <;> (simp only; omega)
        refine mRun.go (q_aload_n dX2_readNumbers_64 rfl rfl) ?_
        refine mRun.go (q_iload dX2_readNumbers_65 rfl) ?_
        refine mRun.go (q_callVi (r := 1) [mi ((num c ((nxt c s 44).2)).2)] [] dX2_readNumbers_67 co_X2_48 ⟨Nat.le_of_ble_eq_true rfl, Nat.le_of_ble_eq_true rfl⟩ gw_297 gw_298 rfl hR.1.1 rfl rfl rfl (Nat.le_of_ble_eq_true rfl) (k_letC hR (nrm_mup hJ (by omega)) hT0 (by omega))) ?_
        refine mRun.go (q_iload dX2_readNumbers_70 rfl) ?_
        refine mRun.go (q_iconst dX2_readNumbers_72) ?_
        refine mRun.go (q_iadd dX2_readNumbers_73) ?_
        refine mRun.go (q_iload_n dX2_readNumbers_74 rfl rfl) ?_
        refine mRun.go (q_icmp_ge_f (tgt := 83) dX2_readNumbers_75 (by decide) (by omega) (by omega) (by decide)) ?_
        refine mRun.go (q_bipush dX2_readNumbers_78 (by decide)) ?_
        refine mRun.go (q_goto (tgt := 85) dX2_readNumbers_80 (by decide)) ?_
        refine r_icmp_eq (tgt := 90) dX2_readNumbers_85 (by decide) (hT0.2.2.2 _) (by omega) (fun c85 => ?_) (fun c85 => ?_)
        · refine mRun.go (q_iinc (ls' := [some (mr 3), some (mr 1), some (mi s), some (mi 3), some (mi (((num c ((nxt c s 44).2)).2) + 1)), some (mi (0 + 1)), some (mi ((num c ((nxt c s 44).2)).1)), some (mi (fig (c (((nxt c s 44).2) + 1))))]) dX2_readNumbers_90 rfl (Nat.le_of_ble_eq_true rfl) rfl) ?_
          refine mRun.go (q_aload_n dX2_readNumbers_93 rfl rfl) ?_
          refine mRun.go (q_getR dX2_readNumbers_94 fo_X2_30 hR.2.1 rfl) ?_
          refine mRun.go (q_iload dX2_readNumbers_97 rfl) ?_
          refine mRun.go (q_iload dX2_readNumbers_99 rfl) ?_
          have hT1 : TXt (mup (mup J (19 + 1) 0 ((num c s).1)) (19 + 1) 1 ((num c ((nxt c s 44).2)).1)) c L := TXt.fr hT0 (mup_nf (by decide)) (mup_nf (by decide))
          refine mRun.go (q_callVv (r := 19) [mi (0 + 1), mi ((num c ((nxt c s 44).2)).1)] [] dX2_readNumbers_101 co_X2_80 ⟨Nat.le_of_ble_eq_true rfl, Nat.le_of_ble_eq_true rfl⟩ gw_311 gw_312 rfl hR.2.2.2.2.1 rfl rfl rfl (Nat.le_of_ble_eq_true rfl) (k_putE (J := mup (mup J (19 + 1) 0 ((num c s).1)) (19 + 1) 1 ((num c ((nxt c s 44).2)).1)) hR.2.2.2.2 (by omega) (by decide) (rput_nat (k := 1) (by omega) (by decide)))) ?_
          refine mRun.go (q_iinc (ls' := [some (mr 3), some (mr 1), some (mi s), some (mi 3), some (mi (((num c ((nxt c s 44).2)).2) + 1)), some (mi ((0 + 1) + 1)), some (mi ((num c ((nxt c s 44).2)).1)), some (mi (fig (c (((nxt c s 44).2) + 1))))]) dX2_readNumbers_104 rfl (Nat.le_of_ble_eq_true rfl) rfl) ?_
          refine mRun.go (q_goto (tgt := 6) dX2_readNumbers_107 (by decide)) ?_
          have hx1 : nxt c ((nxt c s 44).2) 44 = ((num c ((nxt c s 44).2)).1, (num c ((nxt c s 44).2)).2 + 1) := nxt_ok hne1 (by omega)
          have hv1 : (n2 c s).1 = (num c ((nxt c s 44).2)).1 ∧ (n2 c s).2 = (num c ((nxt c s 44).2)).2 + 1 := by unfold n2; rw [hx1]; exact ⟨rfl, rfl⟩
          rw [← hv1.2]
          refine mRun.go (q_iload dX2_readNumbers_6 rfl) ?_
          refine mRun.go (q_iload_n dX2_readNumbers_8 rfl rfl) ?_
          refine mRun.go (q_icmp_ge_f (tgt := 110) dX2_readNumbers_9 (by decide) (by omega) (by omega) (by decide)) ?_
          have hn2 := num_rng c ((n2 c s).2)
          have hf2 := fig_rng (c ((n2 c s).2))
          have hg2 := fig_rng (c ((n2 c s).2 + 1))
          refine mRun.go (q_aload_n dX2_readNumbers_12 rfl rfl) ?_
          refine mRun.go (q_iload dX2_readNumbers_13 rfl) ?_
          refine mRun.go (q_callVi (r := 1) [mi ((n2 c s).2)] [] dX2_readNumbers_15 co_X2_48 ⟨Nat.le_of_ble_eq_true rfl, Nat.le_of_ble_eq_true rfl⟩ gw_297 gw_298 rfl hR.1.1 rfl rfl rfl (Nat.le_of_ble_eq_true rfl) (k_letC hR (nrm_mup (nrm_mup hJ (by omega)) (by omega)) hT1 (by omega))) ?_
          refine mRun.go (q_callSi [mi (c ((n2 c s).2))] [] dX2_readNumbers_18 co_X2_67 ⟨Nat.le_of_ble_eq_true rfl, Nat.le_of_ble_eq_true rfl⟩ gw_305 rfl rfl (Nat.le_of_ble_eq_true rfl) (k_figureOf (hT1.2.2.2 _))) ?_
          refine mRun.go (q_istore (ls' := [some (mr 3), some (mr 1), some (mi s), some (mi 3), some (mi ((n2 c s).2)), some (mi ((0 + 1) + 1)), some (mi (fig (c ((n2 c s).2)))), some (mi (fig (c (((nxt c s 44).2) + 1))))]) dX2_readNumbers_21 (Nat.le_of_ble_eq_true rfl) rfl) ?_
          refine mRun.go (q_iload dX2_readNumbers_23 rfl) ?_
          refine mRun.go (q_iconst dX2_readNumbers_25) ?_
          refine r_icmp_ne (tgt := 31) dX2_readNumbers_26 (by decide) (by have := fig_rng (c ((n2 c s).2)); omega) (by omega) (fun c26 => ?_) (fun c26 => ?_)
          · refine mRun.go (q_iinc (ls' := [some (mr 3), some (mr 1), some (mi s), some (mi 3), some (mi (((n2 c s).2) + 1)), some (mi ((0 + 1) + 1)), some (mi (fig (c ((n2 c s).2)))), some (mi (fig (c (((nxt c s 44).2) + 1))))]) dX2_readNumbers_31 rfl (Nat.le_of_ble_eq_true rfl) rfl) ?_
            refine mRun.go (q_aload_n dX2_readNumbers_34 rfl rfl) ?_
            refine mRun.go (q_iload dX2_readNumbers_35 rfl) ?_
            refine mRun.go (q_callVi (r := 1) [mi (((n2 c s).2) + 1)] [] dX2_readNumbers_37 co_X2_48 ⟨Nat.le_of_ble_eq_true rfl, Nat.le_of_ble_eq_true rfl⟩ gw_297 gw_298 rfl hR.1.1 rfl rfl rfl (Nat.le_of_ble_eq_true rfl) (k_letC hR (nrm_mup (nrm_mup hJ (by omega)) (by omega)) hT1 (by omega))) ?_
            refine mRun.go (q_callSi [mi (c (((n2 c s).2) + 1))] [] dX2_readNumbers_40 co_X2_67 ⟨Nat.le_of_ble_eq_true rfl, Nat.le_of_ble_eq_true rfl⟩ gw_305 rfl rfl (Nat.le_of_ble_eq_true rfl) (k_figureOf (hT1.2.2.2 _))) ?_
            refine mRun.go (q_istore (ls' := [some (mr 3), some (mr 1), some (mi s), some (mi 3), some (mi (((n2 c s).2) + 1)), some (mi ((0 + 1) + 1)), some (mi (fig (c ((n2 c s).2)))), some (mi (fig (c (((n2 c s).2) + 1))))]) dX2_readNumbers_43 (Nat.le_of_ble_eq_true rfl) rfl) ?_
            refine mRun.go (q_iload dX2_readNumbers_45 rfl) ?_
            refine mRun.go (q_iconst dX2_readNumbers_47) ?_
            have j48 : ∀ {post : Option mV → mH → Prop}, mRun mZt mX2_readNumbers 64 [some (mr 3), some (mr 1), some (mi s), some (mi 3), some (mi ((num c ((n2 c s).2)).2)), some (mi ((0 + 1) + 1)), some (mi ((num c ((n2 c s).2)).1)), some (mi (fig (c (((n2 c s).2) + 1))))] [] (σ, mup (mup J (19 + 1) 0 ((num c s).1)) (19 + 1) 1 ((num c ((nxt c s 44).2)).1)) post → mRun mZt mX2_readNumbers 48 [some (mr 3), some (mr 1), some (mi s), some (mi 3), some (mi (((n2 c s).2) + 1)), some (mi ((0 + 1) + 1)), some (mi (fig (c ((n2 c s).2)))), some (mi (fig (c (((n2 c s).2) + 1))))] [mi (-1), mi (fig (c (((n2 c s).2) + 1)))] (σ, mup (mup J (19 + 1) 0 ((num c s).1)) (19 + 1) 1 ((num c ((nxt c s 44).2)).1)) post := by
              intro post k
              refine r_icmp_eq (tgt := 64) dX2_readNumbers_48 (by decide) (by have := fig_rng (c (((n2 c s).2) + 1)); omega) (by omega) (fun c48 => ?_) (fun c48 => ?_)
              · have e : num c ((n2 c s).2) = (fig (c ((n2 c s).2)), (n2 c s).2 + 1) := by unfold num; rw [if_neg (by omega), if_pos (by omega)]
                rw [e] at k
                exact k
              · refine mRun.go (q_iload dX2_readNumbers_51 rfl) ?_
                refine mRun.go (q_bipush dX2_readNumbers_53 (by decide)) ?_
                refine mRun.go (q_imul dX2_readNumbers_55) ?_
                refine mRun.go (q_iload dX2_readNumbers_56 rfl) ?_
                refine mRun.go (q_iadd dX2_readNumbers_58) ?_
                refine mRun.go (q_istore (ls' := [some (mr 3), some (mr 1), some (mi s), some (mi 3), some (mi (((n2 c s).2) + 1)), some (mi ((0 + 1) + 1)), some (mi (((fig (c ((n2 c s).2))) * 10) + (fig (c (((n2 c s).2) + 1))))), some (mi (fig (c (((n2 c s).2) + 1))))]) dX2_readNumbers_59 (Nat.le_of_ble_eq_true rfl) rfl) ?_
                refine mRun.go (q_iinc (ls' := [some (mr 3), some (mr 1), some (mi s), some (mi 3), some (mi ((((n2 c s).2) + 1) + 1)), some (mi ((0 + 1) + 1)), some (mi (((fig (c ((n2 c s).2))) * 10) + (fig (c (((n2 c s).2) + 1))))), some (mi (fig (c (((n2 c s).2) + 1))))]) dX2_readNumbers_61 rfl (Nat.le_of_ble_eq_true rfl) rfl) ?_
                have e : num c ((n2 c s).2) = (fig (c ((n2 c s).2)) * 10 + fig (c ((n2 c s).2 + 1)), (n2 c s).2 + 2) := by unfold num; rw [if_neg (by omega), if_neg (by omega)]
                rw [e] at k
                rw [show (n2 c s).2 + 1 + 1 = (n2 c s).2 + 2 by omega]
                exact k
            refine j48 ?_
            have hne2 : ¬ (num c ((n2 c s).2)).1 = -1 := by unfold num; rw [if_neg (by omega)]; split <;> (simp only; omega)
            refine mRun.go (q_aload_n dX2_readNumbers_64 rfl rfl) ?_
            refine mRun.go (q_iload dX2_readNumbers_65 rfl) ?_
            refine mRun.go (q_callVi (r := 1) [mi ((num c ((n2 c s).2)).2)] [] dX2_readNumbers_67 co_X2_48 ⟨Nat.le_of_ble_eq_true rfl, Nat.le_of_ble_eq_true rfl⟩ gw_297 gw_298 rfl hR.1.1 rfl rfl rfl (Nat.le_of_ble_eq_true rfl) (k_letC hR (nrm_mup (nrm_mup hJ (by omega)) (by omega)) hT1 (by omega))) ?_
            refine mRun.go (q_iload dX2_readNumbers_70 rfl) ?_
            refine mRun.go (q_iconst dX2_readNumbers_72) ?_
            refine mRun.go (q_iadd dX2_readNumbers_73) ?_
            refine mRun.go (q_iload_n dX2_readNumbers_74 rfl rfl) ?_
            refine mRun.go (q_icmp_ge_t (tgt := 83) dX2_readNumbers_75 (by decide) (by omega) (by omega) (by decide)) ?_
            refine mRun.go (q_bipush dX2_readNumbers_83 (by decide)) ?_
            refine r_icmp_eq (tgt := 90) dX2_readNumbers_85 (by decide) (hT1.2.2.2 _) (by omega) (fun c85 => ?_) (fun c85 => ?_)
            · refine mRun.go (q_iinc (ls' := [some (mr 3), some (mr 1), some (mi s), some (mi 3), some (mi (((num c ((n2 c s).2)).2) + 1)), some (mi ((0 + 1) + 1)), some (mi ((num c ((n2 c s).2)).1)), some (mi (fig (c (((n2 c s).2) + 1))))]) dX2_readNumbers_90 rfl (Nat.le_of_ble_eq_true rfl) rfl) ?_
              refine mRun.go (q_aload_n dX2_readNumbers_93 rfl rfl) ?_
              refine mRun.go (q_getR dX2_readNumbers_94 fo_X2_30 hR.2.1 rfl) ?_
              refine mRun.go (q_iload dX2_readNumbers_97 rfl) ?_
              refine mRun.go (q_iload dX2_readNumbers_99 rfl) ?_
              have hT2 : TXt (mup (mup (mup J (19 + 1) 0 ((num c s).1)) (19 + 1) 1 ((num c ((nxt c s 44).2)).1)) (19 + 1) 2 ((num c ((n2 c s).2)).1)) c L := TXt.fr hT1 (mup_nf (by decide)) (mup_nf (by decide))
              refine mRun.go (q_callVv (r := 19) [mi ((0 + 1) + 1), mi ((num c ((n2 c s).2)).1)] [] dX2_readNumbers_101 co_X2_80 ⟨Nat.le_of_ble_eq_true rfl, Nat.le_of_ble_eq_true rfl⟩ gw_311 gw_312 rfl hR.2.2.2.2.1 rfl rfl rfl (Nat.le_of_ble_eq_true rfl) (k_putE (J := mup (mup (mup J (19 + 1) 0 ((num c s).1)) (19 + 1) 1 ((num c ((nxt c s 44).2)).1)) (19 + 1) 2 ((num c ((n2 c s).2)).1)) hR.2.2.2.2 (by omega) (by decide) (rput_nat (k := 2) (by omega) (by decide)))) ?_
              refine mRun.go (q_iinc (ls' := [some (mr 3), some (mr 1), some (mi s), some (mi 3), some (mi (((num c ((n2 c s).2)).2) + 1)), some (mi (((0 + 1) + 1) + 1)), some (mi ((num c ((n2 c s).2)).1)), some (mi (fig (c (((n2 c s).2) + 1))))]) dX2_readNumbers_104 rfl (Nat.le_of_ble_eq_true rfl) rfl) ?_
              refine mRun.go (q_goto (tgt := 6) dX2_readNumbers_107 (by decide)) ?_
              have hx2 : nxt c ((n2 c s).2) 59 = ((num c ((n2 c s).2)).1, (num c ((n2 c s).2)).2 + 1) := nxt_ok hne2 (by omega)
              have hv2 : (n3 c s).1 = (num c ((n2 c s).2)).1 ∧ (n3 c s).2 = (num c ((n2 c s).2)).2 + 1 := by unfold n3; rw [hx2]; exact ⟨rfl, rfl⟩
              rw [← hv2.2]
              refine mRun.go (q_iload dX2_readNumbers_6 rfl) ?_
              refine mRun.go (q_iload_n dX2_readNumbers_8 rfl rfl) ?_
              refine mRun.go (q_icmp_ge_t (tgt := 110) dX2_readNumbers_9 (by decide) (by omega) (by omega) (by decide)) ?_
              refine mRun.go (q_iload dX2_readNumbers_110 rfl) ?_
              refine r_iret dX2_readNumbers_112 rfl ?_
              refine ⟨?_, _, rfl, (nrm_mup (nrm_mup (nrm_mup hJ (by omega)) (by omega)) (by omega)), ?_, ?_⟩
              · rw [if_pos (by omega)]
              · intro r hr; rw [mup_nf hr]; rw [mup_nf hr]; rw [mup_nf hr]
              · intro _; simp [mup]; omega
            · refine mRun.go (q_iconst dX2_readNumbers_88) ?_
              refine r_iret dX2_readNumbers_89 rfl ?_
              have hx : nxt c ((n2 c s).2) 59 = (-1, -1) := nxt_no (Or.inr (by omega))
              have hq : (n3 c s).1 = -1 := by unfold n3; rw [hx]
              refine ⟨?_, _, rfl, (nrm_mup (nrm_mup hJ (by omega)) (by omega)), ?_, ?_⟩
              · rw [if_neg (by omega)]
              · intro r hr; rw [mup_nf hr]; rw [mup_nf hr]
              · intro z; omega
          · refine mRun.go (q_iconst dX2_readNumbers_29) ?_
            refine r_iret dX2_readNumbers_30 rfl ?_
            have hx : nxt c ((n2 c s).2) 59 = (-1, -1) := nxt_no (Or.inl (by unfold num; rw [if_pos (by omega)]))
            have hq : (n3 c s).1 = -1 := by unfold n3; rw [hx]
            refine ⟨?_, _, rfl, (nrm_mup (nrm_mup hJ (by omega)) (by omega)), ?_, ?_⟩
            · rw [if_neg (by omega)]
            · intro r hr; rw [mup_nf hr]; rw [mup_nf hr]
            · intro z; omega
        · refine mRun.go (q_iconst dX2_readNumbers_88) ?_
          refine r_iret dX2_readNumbers_89 rfl ?_
          have hx : nxt c ((nxt c s 44).2) 44 = (-1, -1) := nxt_no (Or.inr (by omega))
          have hq : (n2 c s).1 = -1 := by unfold n2; rw [hx]
          refine ⟨?_, _, rfl, (nrm_mup hJ (by omega)), ?_, ?_⟩
          · rw [if_neg (by omega)]
          · intro r hr; rw [mup_nf hr]
          · intro z; omega
      · refine mRun.go (q_iconst dX2_readNumbers_29) ?_
        refine r_iret dX2_readNumbers_30 rfl ?_
        have hx : nxt c ((nxt c s 44).2) 44 = (-1, -1) := nxt_no (Or.inl (by unfold num; rw [if_pos (by omega)]))
        have hq : (n2 c s).1 = -1 := by unfold n2; rw [hx]
        refine ⟨?_, _, rfl, (nrm_mup hJ (by omega)), ?_, ?_⟩
        · rw [if_neg (by omega)]
        · intro r hr; rw [mup_nf hr]
        · intro z; omega
    · refine mRun.go (q_iconst dX2_readNumbers_88) ?_
      refine r_iret dX2_readNumbers_89 rfl ?_
      have hx : nxt c s 44 = (-1, -1) := nxt_no (Or.inr (by omega))
      have hq : (nxt c s 44).1 = -1 := by rw [hx]
      refine ⟨?_, _, rfl, hJ, ?_, ?_⟩
      · rw [if_neg (by omega)]
      · intro r hr; rfl
      · intro z; omega
  · refine mRun.go (q_iconst dX2_readNumbers_29) ?_
    refine r_iret dX2_readNumbers_30 rfl ?_
    have hx : nxt c s 44 = (-1, -1) := nxt_no (Or.inl (by unfold num; rw [if_pos (by omega)]))
    have hq : (nxt c s 44).1 = -1 := by rw [hx]
    refine ⟨?_, _, rfl, hJ, ?_, ?_⟩
    · rw [if_neg (by omega)]
    · intro r hr; rfl
    · intro z; omega
