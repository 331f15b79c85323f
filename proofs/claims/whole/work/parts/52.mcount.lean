/-! ===== the reference: counting, the fastest ===== -/
theorem ms_q {σ : List mC} {I K : mI} {S : Sx} {B : Int} (h : MS σ I S) (hS : SxOk B S) (hK : Nrm K) (hf : FrM I K) : MS σ K S := ⟨hK, h.2.1, h.2.2.fr hS.1 hf⟩
theorem outm_tr {σ : List mC} {I K : mI} {S : Sx} {x : Int} (hf : ∀ r, r < 144 → K r = I r) {v : Option mV} {h : mH} (o : OutM σ K S x v h) : OutM σ I S x v h := by
  obtain ⟨h1, J, h2, h3, h4⟩ := o
  exact ⟨h1, J, h2, fun r hr => (h3 r hr).trans (hf r hr), h4⟩
theorem frm_lo {I K : mI} (hf : FrM I K) : ∀ r, r < 144 → K r = I r := fun r hr => hf.1 r (by omega) (by omega) (by omega)

set_option maxRecDepth 100000 in
theorem m_sure_in {σ : List mC} {I : mI} {S : Sx} {B : Int} (hM : MS σ I S) (hS : SxOk B S) {x : Nat} (hx : (x : Int) < lP (sL S)) {post : Option mV → mH → Prop} (kk : mRun mZt mX9_sure 66 [some (mr 144), some (mi (cntB (rightAt (sL S) (sF S)) x)), some (mi (x : Int)), some (mi (if rightAt (sL S) (sF S) x = true then 1 else 0)), some (mi (((lD (sL S)).toNat : Nat) : Int))] [] (σ, I) post) : ∀ (n d : Nat), (lD (sL S)).toNat - d < n → d ≤ (lD (sL S)).toNat → mRun mZt mX9_sure 22 [some (mr 144), some (mi (cntB (rightAt (sL S) (sF S)) x)), some (mi (x : Int)), some (mi (if allB (fun d => decide (fT (sF S) (36 * ((d : Nat) : Int) + (x : Int)) = lG (sL S) (x : Int))) d = true then 1 else 0)), some (mi (d : Int))] [] (σ, I) post := by
  intro n
  induction n with
  | zero => intro d h; omega
  | succ n ih =>
    intro d hn hd0
    have hI := hM.1
    have hD := hM.2.1
    have hL := hS.1
    have hsz := hM.2.2.1
    have hLR := hM.2.2.2.2.2.2.1
    have hF := hM.2.2.2.2.2.2.2.1
    have hun := hM.2.2.2.2.2.2.2.2.1
    have hpa := hM.2.2.2.2.2.2.2.2.2.1
    have hkm := hM.2.2.2.2.2.2.2.2.2.2.1
    have hke := hM.2.2.2.2.2.2.2.2.2.2.2.1
    have hhm := hM.2.2.2.2.2.2.2.2.2.2.2.2.1
    have hhe := hM.2.2.2.2.2.2.2.2.2.2.2.2.2.1
    have hN := hM.2.2.2.2.2.2.2.2.2.2.2.2.2.2
    have hpr := lp_rng hL
    have hqe := lq_eq hL
    have hwr := hL.2.1
    have hrr := hL.1
    have hdr := hL.2.2.1
    have hnt := hL.2.2.2.1
    have hwF := hS.2.1.1
    have hhF := hS.2.1.2.1
    have hvF := hS.2.1.2.2.2
    have hH8 := hS.2.2.2.2.2.2.1
    have hU8 := hS.2.2.1
    have hK2 := hS.2.2.2.2.1
    have hLn := hS.2.2.2.2.2.2.2.2
    have hcr := cntB_rng (rightAt (sL S) (sF S)) x
    refine mRun.go (q_iload dX9_sure_22 rfl) ?_
    refine mRun.go (q_aload_n dX9_sure_24 rfl rfl) ?_
    refine mRun.go (q_getE (x := lD (sL S)) dX9_sure_25 fo_X9_91 hD.1 rfl hLR.2.2.1) ?_
    refine r_icmp_ge (tgt := 66) dX9_sure_28 (by decide) (by omega) (by omega) (fun c28 => ?_) (fun c28 => ?_)
    · have hde : d = (lD (sL S)).toNat := by omega
      subst hde
      exact kk
    · refine mRun.go (q_iload_n dX9_sure_31 rfl rfl) ?_
      have j32 : ∀ {post : Option mV → mH → Prop}, mRun mZt mX9_sure 59 [some (mr 144), some (mi (cntB (rightAt (sL S) (sF S)) x)), some (mi (x : Int)), some (mi (if allB (fun d => decide (fT (sF S) (36 * ((d : Nat) : Int) + (x : Int)) = lG (sL S) (x : Int))) d = true then 1 else 0)), some (mi (d : Int))] [mi (if allB (fun d => decide (fT (sF S) (36 * ((d : Nat) : Int) + (x : Int)) = lG (sL S) (x : Int))) (d + 1) = true then 1 else 0)] (σ, I) post → mRun mZt mX9_sure 32 [some (mr 144), some (mi (cntB (rightAt (sL S) (sF S)) x)), some (mi (x : Int)), some (mi (if allB (fun d => decide (fT (sF S) (36 * ((d : Nat) : Int) + (x : Int)) = lG (sL S) (x : Int))) d = true then 1 else 0)), some (mi (d : Int))] [mi (if allB (fun d => decide (fT (sF S) (36 * ((d : Nat) : Int) + (x : Int)) = lG (sL S) (x : Int))) d = true then 1 else 0)] (σ, I) post := by
        intro post k
        refine r_if_eq (tgt := 58) dX9_sure_32 (by decide) (by split <;> omega) (fun c32 => ?_) (fun c32 => ?_)
        · have h32 := ite00 c32
          refine mRun.go (q_iconst dX9_sure_58) ?_
          first | (rw [allB_n c32] at k; exact k) | (rw [allB_y c32 (decide_eq_true (Classical.not_not.mp c51))] at k; exact k) | (rw [allB_m (decide_eq_false c51)] at k; exact k)
        · have h32 := ite01 c32
          refine mRun.go (q_aload_n dX9_sure_35 rfl rfl) ?_
          refine mRun.go (q_getR dX9_sure_36 fo_X9_16 hD.1 rfl) ?_
          refine mRun.go (q_iload dX9_sure_39 rfl) ?_
          refine mRun.go (q_iload_n dX9_sure_41 rfl rfl) ?_
          refine mRun.go (q_callSi [mr 147, mi (d : Int), mi (x : Int)] [] dX9_sure_42 co_X9_172 ⟨Nat.le_of_ble_eq_true rfl, Nat.le_of_ble_eq_true rfl⟩ gw_934 rfl rfl (Nat.le_of_ble_eq_true rfl) (m_tells hI hD hL hLR hD.2.2.2.1 hF (by omega) (by omega))) ?_
          refine mRun.go (q_aload_n dX9_sure_45 rfl rfl) ?_
          refine mRun.go (q_getR dX9_sure_46 fo_X9_7 hD.1 rfl) ?_
          refine mRun.go (q_iload_n dX9_sure_49 rfl rfl) ?_
          refine mRun.go (q_ialdE (x := lG (sL S) (x : Int)) dX9_sure_50 hD.2.1 (by omega) (by omega) (lrm_g hLR (by omega))) ?_
          refine r_icmp_ne (tgt := 58) dX9_sure_51 (by decide) (tellsM_rng hI hF (by omega) (by omega)) (by have := hL.2.2.2.2.1 (x : Int) (by omega) (by omega); omega) (fun c51 => ?_) (fun c51 => ?_)
          · refine mRun.go (q_iconst dX9_sure_58) ?_
            first | (rw [allB_n c32] at k; exact k) | (rw [allB_y c32 (decide_eq_true (Classical.not_not.mp c51))] at k; exact k) | (rw [allB_m (decide_eq_false c51)] at k; exact k)
          · refine mRun.go (q_iconst dX9_sure_54) ?_
            refine mRun.go (q_goto (tgt := 59) dX9_sure_55 (by decide)) ?_
            first | (rw [allB_n c32] at k; exact k) | (rw [allB_y c32 (decide_eq_true (Classical.not_not.mp c51))] at k; exact k) | (rw [allB_m (decide_eq_false c51)] at k; exact k)
      refine j32 ?_
      refine mRun.go (q_istore_n (ls' := [some (mr 144), some (mi (cntB (rightAt (sL S) (sF S)) x)), some (mi (x : Int)), some (mi (if allB (fun d => decide (fT (sF S) (36 * ((d : Nat) : Int) + (x : Int)) = lG (sL S) (x : Int))) (d + 1) = true then 1 else 0)), some (mi (d : Int))]) dX9_sure_59 rfl (Nat.le_of_ble_eq_true rfl) rfl) ?_
      refine mRun.go (q_iinc (ls' := [some (mr 144), some (mi (cntB (rightAt (sL S) (sF S)) x)), some (mi (x : Int)), some (mi (if allB (fun d => decide (fT (sF S) (36 * ((d : Nat) : Int) + (x : Int)) = lG (sL S) (x : Int))) (d + 1) = true then 1 else 0)), some (mi ((d : Int) + 1))]) dX9_sure_60 rfl (Nat.le_of_ble_eq_true rfl) rfl) ?_
      refine mRun.go (q_goto (tgt := 22) dX9_sure_63 (by decide)) ?_
      have e1 : ((d : Int) + 1) = ((d + 1 : Nat) : Int) := by omega
      rw [e1]
      exact ih (d + 1) (by omega) (by omega)

set_option maxRecDepth 100000 in
theorem m_sure_loop {σ : List mC} {I : mI} {S : Sx} {B : Int} (hM : MS σ I S) (hS : SxOk B S) : ∀ (n x : Nat) (o3 o4 : Option mV), lQ (sL S) - x < n → x ≤ lQ (sL S) → mRun mZt mX9_sure 4 [some (mr 144), some (mi (cntB (rightAt (sL S) (sF S)) x)), some (mi (x : Int)), o3, o4] [] (σ, I) (fun v h => v = some (mi (sureS (sL S) (sF S))) ∧ h = (σ, I)) := by
  intro n
  induction n with
  | zero => intro x o3 o4 h; omega
  | succ n ih =>
    intro x o3 o4 hn hx0
    have hI := hM.1
    have hD := hM.2.1
    have hL := hS.1
    have hsz := hM.2.2.1
    have hLR := hM.2.2.2.2.2.2.1
    have hF := hM.2.2.2.2.2.2.2.1
    have hun := hM.2.2.2.2.2.2.2.2.1
    have hpa := hM.2.2.2.2.2.2.2.2.2.1
    have hkm := hM.2.2.2.2.2.2.2.2.2.2.1
    have hke := hM.2.2.2.2.2.2.2.2.2.2.2.1
    have hhm := hM.2.2.2.2.2.2.2.2.2.2.2.2.1
    have hhe := hM.2.2.2.2.2.2.2.2.2.2.2.2.2.1
    have hN := hM.2.2.2.2.2.2.2.2.2.2.2.2.2.2
    have hpr := lp_rng hL
    have hqe := lq_eq hL
    have hwr := hL.2.1
    have hrr := hL.1
    have hdr := hL.2.2.1
    have hnt := hL.2.2.2.1
    have hwF := hS.2.1.1
    have hhF := hS.2.1.2.1
    have hvF := hS.2.1.2.2.2
    have hH8 := hS.2.2.2.2.2.2.1
    have hU8 := hS.2.2.1
    have hK2 := hS.2.2.2.2.1
    have hLn := hS.2.2.2.2.2.2.2.2
    have hcr := cntB_rng (rightAt (sL S) (sF S)) x
    refine mRun.go (q_iload_n dX9_sure_4 rfl rfl) ?_
    refine mRun.go (q_aload_n dX9_sure_5 rfl rfl) ?_
    refine mRun.go (q_getE (x := lR (sL S)) dX9_sure_6 fo_X9_85 hD.1 rfl hLR.1) ?_
    refine mRun.go (q_aload_n dX9_sure_9 rfl rfl) ?_
    refine mRun.go (q_getE (x := lW (sL S)) dX9_sure_10 fo_X9_88 hD.1 rfl hLR.2.1) ?_
    refine mRun.go (q_imul dX9_sure_13) ?_
    refine r_icmp_ge (tgt := 84) dX9_sure_14 (by decide) (by omega) (by have : lR (sL S) * lW (sL S) = lP (sL S) := rfl; omega) (fun c14 => ?_) (fun c14 => ?_)
    · refine mRun.go (q_iload_n dX9_sure_84 rfl rfl) ?_
      refine r_iret dX9_sure_85 rfl ?_
      have hxe : x = lQ (sL S) := by have : lR (sL S) * lW (sL S) = lP (sL S) := rfl; omega
      subst hxe
      exact ⟨rfl, rfl⟩
    · refine mRun.go (q_iconst dX9_sure_17) ?_
      refine mRun.go (q_istore_n (ls' := [some (mr 144), some (mi (cntB (rightAt (sL S) (sF S)) x)), some (mi (x : Int)), some (mi 1), o4]) dX9_sure_18 rfl (Nat.le_of_ble_eq_true rfl) rfl) ?_
      refine mRun.go (q_iconst dX9_sure_19) ?_
      refine mRun.go (q_istore (ls' := [some (mr 144), some (mi (cntB (rightAt (sL S) (sF S)) x)), some (mi (x : Int)), some (mi 1), some (mi 0)]) dX9_sure_20 (Nat.le_of_ble_eq_true rfl) rfl) ?_
      refine m_sure_in hM hS (by have : lR (sL S) * lW (sL S) = lP (sL S) := rfl; omega) ?_ ((lD (sL S)).toNat + 1) 0 (by omega) (by omega)
      refine mRun.go (q_iload_n dX9_sure_66 rfl rfl) ?_
      refine mRun.go (q_iload_n dX9_sure_67 rfl rfl) ?_
      have j68 : ∀ {post : Option mV → mH → Prop}, mRun mZt mX9_sure 76 [some (mr 144), some (mi (cntB (rightAt (sL S) (sF S)) x)), some (mi (x : Int)), some (mi (if rightAt (sL S) (sF S) x = true then 1 else 0)), some (mi (((lD (sL S)).toNat : Nat) : Int))] [mi (if rightAt (sL S) (sF S) x = true then 1 else 0), mi (cntB (rightAt (sL S) (sF S)) x)] (σ, I) post → mRun mZt mX9_sure 68 [some (mr 144), some (mi (cntB (rightAt (sL S) (sF S)) x)), some (mi (x : Int)), some (mi (if rightAt (sL S) (sF S) x = true then 1 else 0)), some (mi (((lD (sL S)).toNat : Nat) : Int))] [mi (if rightAt (sL S) (sF S) x = true then 1 else 0), mi (cntB (rightAt (sL S) (sF S)) x)] (σ, I) post := by
        intro post k
        refine r_if_eq (tgt := 75) dX9_sure_68 (by decide) (by split <;> omega) (fun c68 => ?_) (fun c68 => ?_)
        · have h68 := ite00 c68
          refine mRun.go (q_iconst dX9_sure_75) ?_
          first | (rw [if_neg (fun q => by rw [if_pos q] at c68; omega)] at k ⊢; exact k) | (rw [if_pos (ite01 c68)] at k ⊢; exact k)
        · have h68 := ite01 c68
          refine mRun.go (q_iconst dX9_sure_71) ?_
          refine mRun.go (q_goto (tgt := 76) dX9_sure_72 (by decide)) ?_
          first | (rw [if_neg (fun q => by rw [if_pos q] at c68; omega)] at k ⊢; exact k) | (rw [if_pos (ite01 c68)] at k ⊢; exact k)
      refine j68 ?_
      refine mRun.go (q_iadd dX9_sure_76) ?_
      refine mRun.go (q_istore_n (ls' := [some (mr 144), some (mi ((cntB (rightAt (sL S) (sF S)) x) + (if rightAt (sL S) (sF S) x = true then 1 else 0))), some (mi (x : Int)), some (mi (if rightAt (sL S) (sF S) x = true then 1 else 0)), some (mi (((lD (sL S)).toNat : Nat) : Int))]) dX9_sure_77 rfl (Nat.le_of_ble_eq_true rfl) rfl) ?_
      refine mRun.go (q_iinc (ls' := [some (mr 144), some (mi ((cntB (rightAt (sL S) (sF S)) x) + (if rightAt (sL S) (sF S) x = true then 1 else 0))), some (mi ((x : Int) + 1)), some (mi (if rightAt (sL S) (sF S) x = true then 1 else 0)), some (mi (((lD (sL S)).toNat : Nat) : Int))]) dX9_sure_78 rfl (Nat.le_of_ble_eq_true rfl) rfl) ?_
      refine mRun.go (q_goto (tgt := 4) dX9_sure_81 (by decide)) ?_
      have e1 : ((x : Int) + 1) = ((x + 1 : Nat) : Int) := by omega
      rw [e1]
      exact ih (x + 1) _ _ (by have : lR (sL S) * lW (sL S) = lP (sL S) := rfl; omega) (by have : lR (sL S) * lW (sL S) = lP (sL S) := rfl; omega)

set_option maxRecDepth 100000 in
theorem m_sure {σ : List mC} {I : mI} {S : Sx} {B : Int} (hM : MS σ I S) (hS : SxOk B S) : mCt mX9_sure [mr 144] (σ, I) (some (mi (sureS (sL S) (sF S)))) (σ, I) := by
  refine mCt.eq ?_
  refine mMt.of pl_9 (Nat.le_of_ble_eq_true rfl) ?_
  show mRun mZt mX9_sure 0 [some (mr 144), none, none, none, none] [] (σ, I) _
  refine mRun.go (q_iconst dX9_sure_0) ?_
  refine mRun.go (q_istore_n (ls' := [some (mr 144), some (mi 0), none, none, none]) dX9_sure_1 rfl (Nat.le_of_ble_eq_true rfl) rfl) ?_
  refine mRun.go (q_iconst dX9_sure_2) ?_
  refine mRun.go (q_istore_n (ls' := [some (mr 144), some (mi 0), some (mi 0), none, none]) dX9_sure_3 rfl (Nat.le_of_ble_eq_true rfl) rfl) ?_
  exact m_sure_loop hM hS (lQ (sL S) + 1) 0 none none (by omega) (by omega)

set_option maxRecDepth 100000 in
theorem g_count {σ : List mC} {I : mI} {S : Sx} {B : Int} {v : Int} (hM : MS σ I S) (hS : SxOk B S) (hv : -2147483648 ≤ v ∧ v < 2147483648) : mMt mX9_count [mr 144, mi v] (σ, I) (OutM σ I S (a_count S v)) := by
  refine mMt.of pl_9 (Nat.le_of_ble_eq_true rfl) ?_
  show mRun mZt mX9_count 0 [some (mr 144), some (mi v)] [] (σ, I) _
  have hI := hM.1
  have hD := hM.2.1
  have hL := hS.1
  have hsz := hM.2.2.1
  have hLR := hM.2.2.2.2.2.2.1
  have hF := hM.2.2.2.2.2.2.2.1
  have hun := hM.2.2.2.2.2.2.2.2.1
  have hpa := hM.2.2.2.2.2.2.2.2.2.1
  have hkm := hM.2.2.2.2.2.2.2.2.2.2.1
  have hke := hM.2.2.2.2.2.2.2.2.2.2.2.1
  have hhm := hM.2.2.2.2.2.2.2.2.2.2.2.2.1
  have hhe := hM.2.2.2.2.2.2.2.2.2.2.2.2.2.1
  have hN := hM.2.2.2.2.2.2.2.2.2.2.2.2.2.2
  have hpr := lp_rng hL
  have hqe := lq_eq hL
  have hwr := hL.2.1
  have hrr := hL.1
  have hdr := hL.2.2.1
  have hnt := hL.2.2.2.1
  have hwF := hS.2.1.1
  have hhF := hS.2.1.2.1
  have hvF := hS.2.1.2.2.2
  have hH8 := hS.2.2.2.2.2.2.1
  have hU8 := hS.2.2.1
  have hK2 := hS.2.2.2.2.1
  have hLn := hS.2.2.2.2.2.2.2.2
  refine mRun.go (q_iload_n dX9_count_0 rfl rfl) ?_
  rcases (show v = 0 ∨ v = 1 ∨ v = 2 ∨ v = 3 ∨ v = 4 ∨ v = 5 ∨ v = 6 ∨ v = 7 ∨ v = 8 ∨ v = 9 ∨ v = 10 ∨ v = 11 ∨ v = 12 ∨ (v < 0 ∨ 12 < v) by omega) with s1 | s1 | s1 | s1 | s1 | s1 | s1 | s1 | s1 | s1 | s1 | s1 | s1 | s1
  · refine mRun.go (q_tsw_in (off := 67) (tgt := 68) dX9_count_1 hv (by omega) (by rw [s1]; rfl) (by decide)) ?_
    refine mRun.go (q_aload_n dX9_count_68 rfl rfl) ?_
    refine mRun.go (q_getE (x := lR (sL S)) dX9_count_69 fo_X9_85 hD.1 rfl hLR.1) ?_
    refine mRun.go (q_aload_n dX9_count_72 rfl rfl) ?_
    refine mRun.go (q_getE (x := lW (sL S)) dX9_count_73 fo_X9_88 hD.1 rfl hLR.2.1) ?_
    refine mRun.go (q_imul dX9_count_76) ?_
    refine r_iret dX9_count_77 rfl ?_
    have e : a_count S v = (lR (sL S)) * (lW (sL S)) := by
      unfold a_count
      first | (rw [s1]; rfl) | (rw [if_neg (by omega), if_neg (by omega), if_neg (by omega), if_neg (by omega), if_neg (by omega), if_neg (by omega), if_neg (by omega), if_neg (by omega), if_neg (by omega), if_neg (by omega), if_neg (by omega), if_neg (by omega), if_neg (by omega)])
    rw [e]
    exact outm_q hM hS hI frm_rf
  · refine mRun.go (q_tsw_in (off := 77) (tgt := 78) dX9_count_1 hv (by omega) (by rw [s1]; rfl) (by decide)) ?_
    refine mRun.go (q_aload_n dX9_count_78 rfl rfl) ?_
    refine mRun.go (q_getE (x := lW (sL S)) dX9_count_79 fo_X9_88 hD.1 rfl hLR.2.1) ?_
    refine r_iret dX9_count_82 rfl ?_
    have e : a_count S v = lW (sL S) := by
      unfold a_count
      first | (rw [s1]; rfl) | (rw [if_neg (by omega), if_neg (by omega), if_neg (by omega), if_neg (by omega), if_neg (by omega), if_neg (by omega), if_neg (by omega), if_neg (by omega), if_neg (by omega), if_neg (by omega), if_neg (by omega), if_neg (by omega), if_neg (by omega)])
    rw [e]
    exact outm_q hM hS hI frm_rf
  · refine mRun.go (q_tsw_in (off := 82) (tgt := 83) dX9_count_1 hv (by omega) (by rw [s1]; rfl) (by decide)) ?_
    refine mRun.go (q_aload_n dX9_count_83 rfl rfl) ?_
    refine mRun.go (q_getE (x := lD (sL S)) dX9_count_84 fo_X9_91 hD.1 rfl hLR.2.2.1) ?_
    refine r_iret dX9_count_87 rfl ?_
    have e : a_count S v = lD (sL S) := by
      unfold a_count
      first | (rw [s1]; rfl) | (rw [if_neg (by omega), if_neg (by omega), if_neg (by omega), if_neg (by omega), if_neg (by omega), if_neg (by omega), if_neg (by omega), if_neg (by omega), if_neg (by omega), if_neg (by omega), if_neg (by omega), if_neg (by omega), if_neg (by omega)])
    rw [e]
    exact outm_q hM hS hI frm_rf
  · refine mRun.go (q_tsw_in (off := 87) (tgt := 88) dX9_count_1 hv (by omega) (by rw [s1]; rfl) (by decide)) ?_
    refine mRun.go (q_aload_n dX9_count_88 rfl rfl) ?_
    refine mRun.go (q_getE (x := lTv (sL S)) dX9_count_89 fo_X9_94 hD.1 rfl hN) ?_
    refine r_iret dX9_count_92 rfl ?_
    have e : a_count S v = lTv (sL S) := by
      unfold a_count
      first | (rw [s1]; rfl) | (rw [if_neg (by omega), if_neg (by omega), if_neg (by omega), if_neg (by omega), if_neg (by omega), if_neg (by omega), if_neg (by omega), if_neg (by omega), if_neg (by omega), if_neg (by omega), if_neg (by omega), if_neg (by omega), if_neg (by omega)])
    rw [e]
    exact outm_q hM hS hI frm_rf
  · refine mRun.go (q_tsw_in (off := 92) (tgt := 93) dX9_count_1 hv (by omega) (by rw [s1]; rfl) (by decide)) ?_
    refine mRun.go (q_aload_n dX9_count_93 rfl rfl) ?_
    refine mRun.go (q_getR dX9_count_94 fo_X9_16 hD.1 rfl) ?_
    refine mRun.go (q_iconst dX9_count_97) ?_
    refine mRun.go (q_ialdE (x := fW (sF S)) dX9_count_98 hD.2.2.2.1 (by omega) (by omega) hF.1) ?_
    refine r_iret dX9_count_99 rfl ?_
    have e : a_count S v = fW (sF S) := by
      unfold a_count
      first | (rw [s1]; rfl) | (rw [if_neg (by omega), if_neg (by omega), if_neg (by omega), if_neg (by omega), if_neg (by omega), if_neg (by omega), if_neg (by omega), if_neg (by omega), if_neg (by omega), if_neg (by omega), if_neg (by omega), if_neg (by omega), if_neg (by omega)])
    rw [e]
    exact outm_q hM hS hI frm_rf
  · refine mRun.go (q_tsw_in (off := 99) (tgt := 100) dX9_count_1 hv (by omega) (by rw [s1]; rfl) (by decide)) ?_
    refine mRun.go (q_aload_n dX9_count_100 rfl rfl) ?_
    refine mRun.go (q_getR dX9_count_101 fo_X9_16 hD.1 rfl) ?_
    refine mRun.go (q_iconst dX9_count_104) ?_
    refine mRun.go (q_ialdE (x := fH (sF S)) dX9_count_105 hD.2.2.2.1 (by omega) (by omega) hF.2.1) ?_
    refine r_iret dX9_count_106 rfl ?_
    have e : a_count S v = fH (sF S) := by
      unfold a_count
      first | (rw [s1]; rfl) | (rw [if_neg (by omega), if_neg (by omega), if_neg (by omega), if_neg (by omega), if_neg (by omega), if_neg (by omega), if_neg (by omega), if_neg (by omega), if_neg (by omega), if_neg (by omega), if_neg (by omega), if_neg (by omega), if_neg (by omega)])
    rw [e]
    exact outm_q hM hS hI frm_rf
  · refine mRun.go (q_tsw_in (off := 106) (tgt := 107) dX9_count_1 hv (by omega) (by rw [s1]; rfl) (by decide)) ?_
    refine mRun.go (q_aload_n dX9_count_107 rfl rfl) ?_
    refine mRun.go (q_aload_n dX9_count_108 rfl rfl) ?_
    refine mRun.go (q_getR dX9_count_109 fo_X9_16 hD.1 rfl) ?_
    refine mRun.go (q_iconst dX9_count_112) ?_
    refine mRun.go (q_callVi (r := 144) [mr 147, mi 1] [] dX9_count_113 co_X9_269 ⟨Nat.le_of_ble_eq_true rfl, Nat.le_of_ble_eq_true rfl⟩ gw_1114 gs_54 rfl hD.1 rfl rfl rfl (Nat.le_of_ble_eq_true rfl) (m_manyOf (s := 1) hI hD hL hLR hD.2.2.2.1 hF (Or.inl rfl) hN (by decide) hvF)) ?_
    refine r_iret dX9_count_116 rfl ?_
    have e : a_count S v = manyS (sL S) (sF S) 1 := by
      unfold a_count
      first | (rw [s1]; rfl) | (rw [if_neg (by omega), if_neg (by omega), if_neg (by omega), if_neg (by omega), if_neg (by omega), if_neg (by omega), if_neg (by omega), if_neg (by omega), if_neg (by omega), if_neg (by omega), if_neg (by omega), if_neg (by omega), if_neg (by omega)])
    rw [e]
    exact outm_q hM hS hI frm_rf
  · refine mRun.go (q_tsw_in (off := 116) (tgt := 117) dX9_count_1 hv (by omega) (by rw [s1]; rfl) (by decide)) ?_
    refine mRun.go (q_aload_n dX9_count_117 rfl rfl) ?_
    refine mRun.go (q_aload_n dX9_count_118 rfl rfl) ?_
    refine mRun.go (q_getR dX9_count_119 fo_X9_16 hD.1 rfl) ?_
    refine mRun.go (q_iconst dX9_count_122) ?_
    refine mRun.go (q_callVi (r := 144) [mr 147, mi 2] [] dX9_count_123 co_X9_269 ⟨Nat.le_of_ble_eq_true rfl, Nat.le_of_ble_eq_true rfl⟩ gw_1114 gs_54 rfl hD.1 rfl rfl rfl (Nat.le_of_ble_eq_true rfl) (m_manyOf (s := 2) hI hD hL hLR hD.2.2.2.1 hF (Or.inl rfl) hN (by decide) hvF)) ?_
    refine r_iret dX9_count_126 rfl ?_
    have e : a_count S v = manyS (sL S) (sF S) 2 := by
      unfold a_count
      first | (rw [s1]; rfl) | (rw [if_neg (by omega), if_neg (by omega), if_neg (by omega), if_neg (by omega), if_neg (by omega), if_neg (by omega), if_neg (by omega), if_neg (by omega), if_neg (by omega), if_neg (by omega), if_neg (by omega), if_neg (by omega), if_neg (by omega)])
    rw [e]
    exact outm_q hM hS hI frm_rf
  · refine mRun.go (q_tsw_in (off := 126) (tgt := 127) dX9_count_1 hv (by omega) (by rw [s1]; rfl) (by decide)) ?_
    refine mRun.go (q_aload_n dX9_count_127 rfl rfl) ?_
    refine mRun.go (q_callVi (r := 144) [] [] dX9_count_128 co_X9_273 ⟨Nat.le_of_ble_eq_true rfl, Nat.le_of_ble_eq_true rfl⟩ gw_1130 gs_55 rfl hD.1 rfl rfl rfl (Nat.le_of_ble_eq_true rfl) (m_sure hM hS)) ?_
    refine r_iret dX9_count_131 rfl ?_
    have e : a_count S v = sureS (sL S) (sF S) := by
      unfold a_count
      first | (rw [s1]; rfl) | (rw [if_neg (by omega), if_neg (by omega), if_neg (by omega), if_neg (by omega), if_neg (by omega), if_neg (by omega), if_neg (by omega), if_neg (by omega), if_neg (by omega), if_neg (by omega), if_neg (by omega), if_neg (by omega), if_neg (by omega)])
    rw [e]
    exact outm_q hM hS hI frm_rf
  · refine mRun.go (q_tsw_in (off := 131) (tgt := 132) dX9_count_1 hv (by omega) (by rw [s1]; rfl) (by decide)) ?_
    refine mRun.go (q_aload_n dX9_count_132 rfl rfl) ?_
    refine mRun.go (q_getE (x := ((sH S).1 : Int)) dX9_count_133 fo_X9_107 hD.1 rfl hhm) ?_
    refine r_iret dX9_count_136 rfl ?_
    have e : a_count S v = ((sH S).1 : Int) := by
      unfold a_count
      first | (rw [s1]; rfl) | (rw [if_neg (by omega), if_neg (by omega), if_neg (by omega), if_neg (by omega), if_neg (by omega), if_neg (by omega), if_neg (by omega), if_neg (by omega), if_neg (by omega), if_neg (by omega), if_neg (by omega), if_neg (by omega), if_neg (by omega)])
    rw [e]
    exact outm_q hM hS hI frm_rf
  · refine mRun.go (q_tsw_in (off := 136) (tgt := 137) dX9_count_1 hv (by omega) (by rw [s1]; rfl) (by decide)) ?_
    refine mRun.go (q_aload_n dX9_count_137 rfl rfl) ?_
    refine mRun.go (q_getE (x := ((sU S).1 : Int)) dX9_count_138 fo_X9_101 hD.1 rfl hun) ?_
    refine r_iret dX9_count_141 rfl ?_
    have e : a_count S v = ((sU S).1 : Int) := by
      unfold a_count
      first | (rw [s1]; rfl) | (rw [if_neg (by omega), if_neg (by omega), if_neg (by omega), if_neg (by omega), if_neg (by omega), if_neg (by omega), if_neg (by omega), if_neg (by omega), if_neg (by omega), if_neg (by omega), if_neg (by omega), if_neg (by omega), if_neg (by omega)])
    rw [e]
    exact outm_q hM hS hI frm_rf
  · refine mRun.go (q_tsw_in (off := 141) (tgt := 142) dX9_count_1 hv (by omega) (by rw [s1]; rfl) (by decide)) ?_
    refine mRun.go (q_aload_n dX9_count_142 rfl rfl) ?_
    refine mRun.go (q_getE (x := ((sK S).1 : Int)) dX9_count_143 fo_X9_104 hD.1 rfl hkm) ?_
    refine r_iret dX9_count_146 rfl ?_
    have e : a_count S v = ((sK S).1 : Int) := by
      unfold a_count
      first | (rw [s1]; rfl) | (rw [if_neg (by omega), if_neg (by omega), if_neg (by omega), if_neg (by omega), if_neg (by omega), if_neg (by omega), if_neg (by omega), if_neg (by omega), if_neg (by omega), if_neg (by omega), if_neg (by omega), if_neg (by omega), if_neg (by omega)])
    rw [e]
    exact outm_q hM hS hI frm_rf
  · refine mRun.go (q_tsw_in (off := 146) (tgt := 147) dX9_count_1 hv (by omega) (by rw [s1]; rfl) (by decide)) ?_
    refine mRun.go (q_aload_n dX9_count_147 rfl rfl) ?_
    refine mRun.go (q_getE (x := sLn S) dX9_count_148 fo_X9_118 hD.1 rfl hsz) ?_
    refine r_iret dX9_count_151 rfl ?_
    have e : a_count S v = sLn S := by
      unfold a_count
      first | (rw [s1]; rfl) | (rw [if_neg (by omega), if_neg (by omega), if_neg (by omega), if_neg (by omega), if_neg (by omega), if_neg (by omega), if_neg (by omega), if_neg (by omega), if_neg (by omega), if_neg (by omega), if_neg (by omega), if_neg (by omega), if_neg (by omega)])
    rw [e]
    exact outm_q hM hS hI frm_rf
  · refine mRun.go (q_tsw_out (tgt := 152) dX9_count_1 hv s1 (by decide)) ?_
    refine mRun.go (q_iconst dX9_count_152) ?_
    refine r_iret dX9_count_153 rfl ?_
    have e : a_count S v = (-1) := by
      unfold a_count
      first | (rw [s1]; rfl) | (rw [if_neg (by omega), if_neg (by omega), if_neg (by omega), if_neg (by omega), if_neg (by omega), if_neg (by omega), if_neg (by omega), if_neg (by omega), if_neg (by omega), if_neg (by omega), if_neg (by omega), if_neg (by omega), if_neg (by omega)])
    rw [e]
    exact outm_q hM hS hI frm_rf

theorem frm_drum {J : mI} {L : Ld} {F : Fs} {t d : Int} (h : FRM J 148 0 L F) (hL : LdOk L) (ht : 0 ≤ t ∧ t < lTv L) : FRM (mup J 148 (154 + t).toNat d) 148 0 L (setV F t.toNat (sdr (fV F t.toNat) d)) := by
  have hnt := hL.2.2.2.1
  have h6 := tv6i (h.2.2.2 t.toNat (by omega))
  rw [show (154 + t).toNat = (154 + ((t.toNat : Nat) : Int)).toNat by omega]
  refine frm_setV h hL (by omega) (fun k hk n0 n1 n2 n3 n4 n5 => mup_ne2 n2) ?_
  exact tv6 (by rw [mup_ne2 (by omega)]; exact h6.1) (by rw [mup_ne2 (by omega)]; exact h6.2.1) (by rw [mup_self]; rfl) (by rw [mup_ne2 (by omega)]; exact h6.2.2.2.1) (by rw [mup_ne2 (by omega)]; exact h6.2.2.2.2.1) (by rw [mup_ne2 (by omega)]; exact h6.2.2.2.2.2)

set_option maxRecDepth 100000 in
theorem g_fastest_loop {σ : List mC} {S : Sx} {B t : Int} (hS : SxOk B S) (htt : isT S t) : ∀ (n d : Nat) (I : mI) (o5 : Option mV), (lD (sL S)).toNat - d < n → d ≤ (lD (sL S)).toNat → MS σ I S → mRun mZt mX9_fastest 35 [some (mr 144), some (mi t), some (mi (bst (fun d => anS S 1 (sdr (tvS S t) ((d : Nat) : Int))) 1000000 d).1), some (mi (bst (fun d => anS S 1 (sdr (tvS S t) ((d : Nat) : Int))) 1000000 d).2), some (mi (d : Int)), o5] [] (σ, I) (OutM σ I S (bst (fun d => anS S 1 (sdr (tvS S t) ((d : Nat) : Int))) 1000000 (lD (sL S)).toNat).1) := by
  intro n
  induction n with
  | zero => intro d I o5 h; omega
  | succ n ih =>
    intro d I o5 hn hd0 hM
    have hI := hM.1
    have hD := hM.2.1
    have hL := hS.1
    have hsz := hM.2.2.1
    have hLR := hM.2.2.2.2.2.2.1
    have hF := hM.2.2.2.2.2.2.2.1
    have hun := hM.2.2.2.2.2.2.2.2.1
    have hpa := hM.2.2.2.2.2.2.2.2.2.1
    have hkm := hM.2.2.2.2.2.2.2.2.2.2.1
    have hke := hM.2.2.2.2.2.2.2.2.2.2.2.1
    have hhm := hM.2.2.2.2.2.2.2.2.2.2.2.2.1
    have hhe := hM.2.2.2.2.2.2.2.2.2.2.2.2.2.1
    have hN := hM.2.2.2.2.2.2.2.2.2.2.2.2.2.2
    have hpr := lp_rng hL
    have hqe := lq_eq hL
    have hwr := hL.2.1
    have hrr := hL.1
    have hdr := hL.2.2.1
    have hnt := hL.2.2.2.1
    have hwF := hS.2.1.1
    have hhF := hS.2.1.2.1
    have hvF := hS.2.1.2.2.2
    have hH8 := hS.2.2.2.2.2.2.1
    have hU8 := hS.2.2.1
    have hK2 := hS.2.2.2.2.1
    have hLn := hS.2.2.2.2.2.2.2.2
    have htt : 0 ≤ t ∧ t < lTv (sL S) := htt
    have hb := @bst_rng (fun d => anS S 1 (sdr (tvS S t) ((d : Nat) : Int))) 1000000 ⟨by decide, by decide⟩ (fun k => by have := @anS_rng S 1 (sdr (tvS S t) ((k : Nat) : Int)); show anS S 1 (sdr (tvS S t) ((k : Nat) : Int)) = -4 ∨ 0 ≤ anS S 1 (sdr (tvS S t) ((k : Nat) : Int)); omega) d
    have har := @anS_rng S 1 (sdr (tvS S t) ((d : Nat) : Int))
    refine mRun.go (q_iload dX9_fastest_35 rfl) ?_
    refine mRun.go (q_aload_n dX9_fastest_37 rfl rfl) ?_
    refine mRun.go (q_getE (x := lD (sL S)) dX9_fastest_38 fo_X9_91 hD.1 rfl hLR.2.2.1) ?_
    refine r_icmp_ge (tgt := 126) dX9_fastest_41 (by decide) (by omega) (by omega) (fun c41 => ?_) (fun c41 => ?_)
    · refine mRun.go (q_iload_n dX9_fastest_126 rfl rfl) ?_
      refine r_iret dX9_fastest_127 rfl ?_
      have hde : d = (lD (sL S)).toNat := by omega
      subst hde
      exact outm_q hM hS hI frm_rf
    · refine mRun.go (q_aload_n dX9_fastest_44 rfl rfl) ?_
      refine mRun.go (q_getR dX9_fastest_45 fo_X9_16 hD.1 rfl) ?_
      refine mRun.go (q_iconst dX9_fastest_48) ?_
      refine mRun.go (q_aload_n dX9_fastest_49 rfl rfl) ?_
      refine mRun.go (q_getR dX9_fastest_50 fo_X9_19 hD.1 rfl) ?_
      refine mRun.go (q_iconst dX9_fastest_53) ?_
      refine mRun.go (q_sipush dX9_fastest_54 (by decide)) ?_
      refine mRun.go (q_callSv [mr 147, mi 0, mr 148, mi 0, mi 170] [] dX9_fastest_57 co_X9_97 ⟨Nat.le_of_ble_eq_true rfl, Nat.le_of_ble_eq_true rfl⟩ gw_755 rfl rfl (Nat.le_of_ble_eq_true rfl) (m_copies (i := 0) (j := 0) (m := 170) hI hD.2.2.2.1 hD.2.2.2.2.1 (by decide) (by decide) (by decide) (by decide) (by decide))) ?_
      refine mRun.go (q_aload_n dX9_fastest_60 rfl rfl) ?_
      refine mRun.go (q_getR dX9_fastest_61 fo_X9_19 hD.1 rfl) ?_
      refine mRun.go (q_sipush dX9_fastest_64 (by decide)) ?_
      refine mRun.go (q_iload_n dX9_fastest_67 rfl rfl) ?_
      refine mRun.go (q_iadd dX9_fastest_68) ?_
      refine mRun.go (q_iload dX9_fastest_69 rfl) ?_
      refine mRun.go (q_iast dX9_fastest_71 hD.2.2.2.2.1 (by omega) (by omega)) ?_
      refine mRun.go (q_aload_n dX9_fastest_72 rfl rfl) ?_
      refine mRun.go (q_iload_n dX9_fastest_73 rfl rfl) ?_
      refine mRun.go (q_iconst dX9_fastest_74) ?_
      have hFa := asd_f hF hL
      have hFd : FRM (mup (asd I) 148 (154 + t).toNat (d : Int)) 148 0 (sL S) (setV (sF S) t.toNat (sdr (tvS S t) (d : Int))) := frm_drum hFa hL htt
      obtain ⟨v0, h0, hc0, rfl, K, rfl, hK, hfK⟩ := m_untilSo (t := t.toNat) (s := 1) (nrm_mup (show Nrm (asd I) from nrm_mcp hI) (by omega)) hD hL ((hLR.frm asd_m).frm (frm_a (fun r p q => mup_nf q))) hFd (by omega) hwF (by rw [setV_at]; exact sdr_ok (hvF _ (by omega)) (by omega)) (by decide)
      rw [setV_at, show ((t.toNat : Nat) : Int) = t by omega] at hc0
      have hfQ : FrM I K := frm_tr asd_m (frm_a (fun r p q => (hfK r p q).trans (mup_nf q)))
      refine mRun.go (q_callVi (r := 144) [mi t, mi 1] [] dX9_fastest_75 co_X9_232 ⟨Nat.le_of_ble_eq_true rfl, Nat.le_of_ble_eq_true rfl⟩ gw_1036 gs_51 rfl hD.1 rfl rfl rfl (Nat.le_of_ble_eq_true rfl) hc0) ?_
      refine mRun.go (q_istore (ls' := [some (mr 144), some (mi t), some (mi ((bst (fun d => anS S 1 (sdr (tvS S t) ((d : Nat) : Int))) 1000000 d).1)), some (mi ((bst (fun d => anS S 1 (sdr (tvS S t) ((d : Nat) : Int))) 1000000 d).2)), some (mi (d : Int)), some (mi (anS S 1 (sdr (tvS S t) (d : Int))))]) dX9_fastest_78 (Nat.le_of_ble_eq_true rfl) rfl) ?_
      refine mRun.go (q_iload dX9_fastest_80 rfl) ?_
      refine mRun.go (q_bipush dX9_fastest_82 (by decide)) ?_
      have j84 : ∀ {post : Option mV → mH → Prop}, mRun mZt mX9_fastest 99 [some (mr 144), some (mi t), some (mi ((bst (fun d => anS S 1 (sdr (tvS S t) ((d : Nat) : Int))) 1000000 d).1)), some (mi ((bst (fun d => anS S 1 (sdr (tvS S t) ((d : Nat) : Int))) 1000000 d).2)), some (mi (d : Int)), some (mi (anS S 1 (sdr (tvS S t) (d : Int))))] [mi (if anS S 1 (sdr (tvS S t) (d : Int)) ≠ -4 ∧ anS S 1 (sdr (tvS S t) (d : Int)) < (bst (fun d => anS S 1 (sdr (tvS S t) ((d : Nat) : Int))) 1000000 d).2 then (d : Int) else (bst (fun d => anS S 1 (sdr (tvS S t) ((d : Nat) : Int))) 1000000 d).1)] (σ, K) post → mRun mZt mX9_fastest 84 [some (mr 144), some (mi t), some (mi ((bst (fun d => anS S 1 (sdr (tvS S t) ((d : Nat) : Int))) 1000000 d).1)), some (mi ((bst (fun d => anS S 1 (sdr (tvS S t) ((d : Nat) : Int))) 1000000 d).2)), some (mi (d : Int)), some (mi (anS S 1 (sdr (tvS S t) (d : Int))))] [mi (-4), mi (anS S 1 (sdr (tvS S t) (d : Int)))] (σ, K) post := by
        intro post k
        refine r_icmp_eq (tgt := 98) dX9_fastest_84 (by decide) (by omega) (by omega) (fun c84 => ?_) (fun c84 => ?_)
        · refine mRun.go (q_iload_n dX9_fastest_98 rfl rfl) ?_
          first | (rw [if_pos (show anS S 1 (sdr (tvS S t) (d : Int)) ≠ -4 ∧ anS S 1 (sdr (tvS S t) (d : Int)) < (bst (fun d => anS S 1 (sdr (tvS S t) ((d : Nat) : Int))) 1000000 d).2 from ⟨by omega, by omega⟩)] at k; exact k) | (rw [if_neg (show ¬ (anS S 1 (sdr (tvS S t) (d : Int)) ≠ -4 ∧ anS S 1 (sdr (tvS S t) (d : Int)) < (bst (fun d => anS S 1 (sdr (tvS S t) ((d : Nat) : Int))) 1000000 d).2) from fun q => by omega)] at k; exact k)
        · refine mRun.go (q_iload dX9_fastest_87 rfl) ?_
          refine mRun.go (q_iload_n dX9_fastest_89 rfl rfl) ?_
          refine r_icmp_ge (tgt := 98) dX9_fastest_90 (by decide) (by omega) (by omega) (fun c90 => ?_) (fun c90 => ?_)
          · refine mRun.go (q_iload_n dX9_fastest_98 rfl rfl) ?_
            first | (rw [if_pos (show anS S 1 (sdr (tvS S t) (d : Int)) ≠ -4 ∧ anS S 1 (sdr (tvS S t) (d : Int)) < (bst (fun d => anS S 1 (sdr (tvS S t) ((d : Nat) : Int))) 1000000 d).2 from ⟨by omega, by omega⟩)] at k; exact k) | (rw [if_neg (show ¬ (anS S 1 (sdr (tvS S t) (d : Int)) ≠ -4 ∧ anS S 1 (sdr (tvS S t) (d : Int)) < (bst (fun d => anS S 1 (sdr (tvS S t) ((d : Nat) : Int))) 1000000 d).2) from fun q => by omega)] at k; exact k)
          · refine mRun.go (q_iload dX9_fastest_93 rfl) ?_
            refine mRun.go (q_goto (tgt := 99) dX9_fastest_95 (by decide)) ?_
            first | (rw [if_pos (show anS S 1 (sdr (tvS S t) (d : Int)) ≠ -4 ∧ anS S 1 (sdr (tvS S t) (d : Int)) < (bst (fun d => anS S 1 (sdr (tvS S t) ((d : Nat) : Int))) 1000000 d).2 from ⟨by omega, by omega⟩)] at k; exact k) | (rw [if_neg (show ¬ (anS S 1 (sdr (tvS S t) (d : Int)) ≠ -4 ∧ anS S 1 (sdr (tvS S t) (d : Int)) < (bst (fun d => anS S 1 (sdr (tvS S t) ((d : Nat) : Int))) 1000000 d).2) from fun q => by omega)] at k; exact k)
      refine j84 ?_
      refine mRun.go (q_istore_n (ls' := [some (mr 144), some (mi t), some (mi (if anS S 1 (sdr (tvS S t) (d : Int)) ≠ -4 ∧ anS S 1 (sdr (tvS S t) (d : Int)) < (bst (fun d => anS S 1 (sdr (tvS S t) ((d : Nat) : Int))) 1000000 d).2 then (d : Int) else (bst (fun d => anS S 1 (sdr (tvS S t) ((d : Nat) : Int))) 1000000 d).1)), some (mi ((bst (fun d => anS S 1 (sdr (tvS S t) ((d : Nat) : Int))) 1000000 d).2)), some (mi (d : Int)), some (mi (anS S 1 (sdr (tvS S t) (d : Int))))]) dX9_fastest_99 rfl (Nat.le_of_ble_eq_true rfl) rfl) ?_
      refine mRun.go (q_iload dX9_fastest_100 rfl) ?_
      refine mRun.go (q_bipush dX9_fastest_102 (by decide)) ?_
      have j104 : ∀ {post : Option mV → mH → Prop}, mRun mZt mX9_fastest 119 [some (mr 144), some (mi t), some (mi (if anS S 1 (sdr (tvS S t) (d : Int)) ≠ -4 ∧ anS S 1 (sdr (tvS S t) (d : Int)) < (bst (fun d => anS S 1 (sdr (tvS S t) ((d : Nat) : Int))) 1000000 d).2 then (d : Int) else (bst (fun d => anS S 1 (sdr (tvS S t) ((d : Nat) : Int))) 1000000 d).1)), some (mi ((bst (fun d => anS S 1 (sdr (tvS S t) ((d : Nat) : Int))) 1000000 d).2)), some (mi (d : Int)), some (mi (anS S 1 (sdr (tvS S t) (d : Int))))] [mi (if anS S 1 (sdr (tvS S t) (d : Int)) ≠ -4 ∧ anS S 1 (sdr (tvS S t) (d : Int)) < (bst (fun d => anS S 1 (sdr (tvS S t) ((d : Nat) : Int))) 1000000 d).2 then anS S 1 (sdr (tvS S t) (d : Int)) else (bst (fun d => anS S 1 (sdr (tvS S t) ((d : Nat) : Int))) 1000000 d).2)] (σ, K) post → mRun mZt mX9_fastest 104 [some (mr 144), some (mi t), some (mi (if anS S 1 (sdr (tvS S t) (d : Int)) ≠ -4 ∧ anS S 1 (sdr (tvS S t) (d : Int)) < (bst (fun d => anS S 1 (sdr (tvS S t) ((d : Nat) : Int))) 1000000 d).2 then (d : Int) else (bst (fun d => anS S 1 (sdr (tvS S t) ((d : Nat) : Int))) 1000000 d).1)), some (mi ((bst (fun d => anS S 1 (sdr (tvS S t) ((d : Nat) : Int))) 1000000 d).2)), some (mi (d : Int)), some (mi (anS S 1 (sdr (tvS S t) (d : Int))))] [mi (-4), mi (anS S 1 (sdr (tvS S t) (d : Int)))] (σ, K) post := by
        intro post k
        refine r_icmp_eq (tgt := 118) dX9_fastest_104 (by decide) (by omega) (by omega) (fun c104 => ?_) (fun c104 => ?_)
        · refine mRun.go (q_iload_n dX9_fastest_118 rfl rfl) ?_
          first | (rw [if_pos (show anS S 1 (sdr (tvS S t) (d : Int)) ≠ -4 ∧ anS S 1 (sdr (tvS S t) (d : Int)) < (bst (fun d => anS S 1 (sdr (tvS S t) ((d : Nat) : Int))) 1000000 d).2 from ⟨by omega, by omega⟩), if_pos (show anS S 1 (sdr (tvS S t) (d : Int)) ≠ -4 ∧ anS S 1 (sdr (tvS S t) (d : Int)) < (bst (fun d => anS S 1 (sdr (tvS S t) ((d : Nat) : Int))) 1000000 d).2 from ⟨by omega, by omega⟩)] at k; rw [if_pos (show anS S 1 (sdr (tvS S t) (d : Int)) ≠ -4 ∧ anS S 1 (sdr (tvS S t) (d : Int)) < (bst (fun d => anS S 1 (sdr (tvS S t) ((d : Nat) : Int))) 1000000 d).2 from ⟨by omega, by omega⟩)]; exact k) | (rw [if_neg (show ¬ (anS S 1 (sdr (tvS S t) (d : Int)) ≠ -4 ∧ anS S 1 (sdr (tvS S t) (d : Int)) < (bst (fun d => anS S 1 (sdr (tvS S t) ((d : Nat) : Int))) 1000000 d).2) from fun q => by omega), if_neg (show ¬ (anS S 1 (sdr (tvS S t) (d : Int)) ≠ -4 ∧ anS S 1 (sdr (tvS S t) (d : Int)) < (bst (fun d => anS S 1 (sdr (tvS S t) ((d : Nat) : Int))) 1000000 d).2) from fun q => by omega)] at k; rw [if_neg (show ¬ (anS S 1 (sdr (tvS S t) (d : Int)) ≠ -4 ∧ anS S 1 (sdr (tvS S t) (d : Int)) < (bst (fun d => anS S 1 (sdr (tvS S t) ((d : Nat) : Int))) 1000000 d).2) from fun q => by omega)]; exact k)
        · refine mRun.go (q_iload dX9_fastest_107 rfl) ?_
          refine mRun.go (q_iload_n dX9_fastest_109 rfl rfl) ?_
          refine r_icmp_ge (tgt := 118) dX9_fastest_110 (by decide) (by omega) (by omega) (fun c110 => ?_) (fun c110 => ?_)
          · refine mRun.go (q_iload_n dX9_fastest_118 rfl rfl) ?_
            first | (rw [if_pos (show anS S 1 (sdr (tvS S t) (d : Int)) ≠ -4 ∧ anS S 1 (sdr (tvS S t) (d : Int)) < (bst (fun d => anS S 1 (sdr (tvS S t) ((d : Nat) : Int))) 1000000 d).2 from ⟨by omega, by omega⟩), if_pos (show anS S 1 (sdr (tvS S t) (d : Int)) ≠ -4 ∧ anS S 1 (sdr (tvS S t) (d : Int)) < (bst (fun d => anS S 1 (sdr (tvS S t) ((d : Nat) : Int))) 1000000 d).2 from ⟨by omega, by omega⟩)] at k; rw [if_pos (show anS S 1 (sdr (tvS S t) (d : Int)) ≠ -4 ∧ anS S 1 (sdr (tvS S t) (d : Int)) < (bst (fun d => anS S 1 (sdr (tvS S t) ((d : Nat) : Int))) 1000000 d).2 from ⟨by omega, by omega⟩)]; exact k) | (rw [if_neg (show ¬ (anS S 1 (sdr (tvS S t) (d : Int)) ≠ -4 ∧ anS S 1 (sdr (tvS S t) (d : Int)) < (bst (fun d => anS S 1 (sdr (tvS S t) ((d : Nat) : Int))) 1000000 d).2) from fun q => by omega), if_neg (show ¬ (anS S 1 (sdr (tvS S t) (d : Int)) ≠ -4 ∧ anS S 1 (sdr (tvS S t) (d : Int)) < (bst (fun d => anS S 1 (sdr (tvS S t) ((d : Nat) : Int))) 1000000 d).2) from fun q => by omega)] at k; rw [if_neg (show ¬ (anS S 1 (sdr (tvS S t) (d : Int)) ≠ -4 ∧ anS S 1 (sdr (tvS S t) (d : Int)) < (bst (fun d => anS S 1 (sdr (tvS S t) ((d : Nat) : Int))) 1000000 d).2) from fun q => by omega)]; exact k)
          · refine mRun.go (q_iload dX9_fastest_113 rfl) ?_
            refine mRun.go (q_goto (tgt := 119) dX9_fastest_115 (by decide)) ?_
            first | (rw [if_pos (show anS S 1 (sdr (tvS S t) (d : Int)) ≠ -4 ∧ anS S 1 (sdr (tvS S t) (d : Int)) < (bst (fun d => anS S 1 (sdr (tvS S t) ((d : Nat) : Int))) 1000000 d).2 from ⟨by omega, by omega⟩), if_pos (show anS S 1 (sdr (tvS S t) (d : Int)) ≠ -4 ∧ anS S 1 (sdr (tvS S t) (d : Int)) < (bst (fun d => anS S 1 (sdr (tvS S t) ((d : Nat) : Int))) 1000000 d).2 from ⟨by omega, by omega⟩)] at k; rw [if_pos (show anS S 1 (sdr (tvS S t) (d : Int)) ≠ -4 ∧ anS S 1 (sdr (tvS S t) (d : Int)) < (bst (fun d => anS S 1 (sdr (tvS S t) ((d : Nat) : Int))) 1000000 d).2 from ⟨by omega, by omega⟩)]; exact k) | (rw [if_neg (show ¬ (anS S 1 (sdr (tvS S t) (d : Int)) ≠ -4 ∧ anS S 1 (sdr (tvS S t) (d : Int)) < (bst (fun d => anS S 1 (sdr (tvS S t) ((d : Nat) : Int))) 1000000 d).2) from fun q => by omega), if_neg (show ¬ (anS S 1 (sdr (tvS S t) (d : Int)) ≠ -4 ∧ anS S 1 (sdr (tvS S t) (d : Int)) < (bst (fun d => anS S 1 (sdr (tvS S t) ((d : Nat) : Int))) 1000000 d).2) from fun q => by omega)] at k; rw [if_neg (show ¬ (anS S 1 (sdr (tvS S t) (d : Int)) ≠ -4 ∧ anS S 1 (sdr (tvS S t) (d : Int)) < (bst (fun d => anS S 1 (sdr (tvS S t) ((d : Nat) : Int))) 1000000 d).2) from fun q => by omega)]; exact k)
      refine j104 ?_
      refine mRun.go (q_istore_n (ls' := [some (mr 144), some (mi t), some (mi (if anS S 1 (sdr (tvS S t) (d : Int)) ≠ -4 ∧ anS S 1 (sdr (tvS S t) (d : Int)) < (bst (fun d => anS S 1 (sdr (tvS S t) ((d : Nat) : Int))) 1000000 d).2 then (d : Int) else (bst (fun d => anS S 1 (sdr (tvS S t) ((d : Nat) : Int))) 1000000 d).1)), some (mi (if anS S 1 (sdr (tvS S t) (d : Int)) ≠ -4 ∧ anS S 1 (sdr (tvS S t) (d : Int)) < (bst (fun d => anS S 1 (sdr (tvS S t) ((d : Nat) : Int))) 1000000 d).2 then anS S 1 (sdr (tvS S t) (d : Int)) else (bst (fun d => anS S 1 (sdr (tvS S t) ((d : Nat) : Int))) 1000000 d).2)), some (mi (d : Int)), some (mi (anS S 1 (sdr (tvS S t) (d : Int))))]) dX9_fastest_119 rfl (Nat.le_of_ble_eq_true rfl) rfl) ?_
      refine mRun.go (q_iinc (ls' := [some (mr 144), some (mi t), some (mi (if anS S 1 (sdr (tvS S t) (d : Int)) ≠ -4 ∧ anS S 1 (sdr (tvS S t) (d : Int)) < (bst (fun d => anS S 1 (sdr (tvS S t) ((d : Nat) : Int))) 1000000 d).2 then (d : Int) else (bst (fun d => anS S 1 (sdr (tvS S t) ((d : Nat) : Int))) 1000000 d).1)), some (mi (if anS S 1 (sdr (tvS S t) (d : Int)) ≠ -4 ∧ anS S 1 (sdr (tvS S t) (d : Int)) < (bst (fun d => anS S 1 (sdr (tvS S t) ((d : Nat) : Int))) 1000000 d).2 then anS S 1 (sdr (tvS S t) (d : Int)) else (bst (fun d => anS S 1 (sdr (tvS S t) ((d : Nat) : Int))) 1000000 d).2)), some (mi ((d : Int) + 1)), some (mi (anS S 1 (sdr (tvS S t) (d : Int))))]) dX9_fastest_120 rfl (Nat.le_of_ble_eq_true rfl) rfl) ?_
      refine mRun.go (q_goto (tgt := 35) dX9_fastest_123 (by decide)) ?_
      have e1 : ((d : Int) + 1) = ((d + 1 : Nat) : Int) := by omega
      rw [e1]
      have h := ih (d + 1) K (some (mi (anS S 1 (sdr (tvS S t) (d : Int))))) (by omega) (by omega) (ms_q hM hS hK hfQ)
      have e2 : bst (fun d => anS S 1 (sdr (tvS S t) ((d : Nat) : Int))) 1000000 (d + 1) = (if anS S 1 (sdr (tvS S t) (d : Int)) ≠ -4 ∧ anS S 1 (sdr (tvS S t) (d : Int)) < (bst (fun d => anS S 1 (sdr (tvS S t) ((d : Nat) : Int))) 1000000 d).2 then (d : Int) else (bst (fun d => anS S 1 (sdr (tvS S t) ((d : Nat) : Int))) 1000000 d).1, if anS S 1 (sdr (tvS S t) (d : Int)) ≠ -4 ∧ anS S 1 (sdr (tvS S t) (d : Int)) < (bst (fun d => anS S 1 (sdr (tvS S t) ((d : Nat) : Int))) 1000000 d).2 then anS S 1 (sdr (tvS S t) (d : Int)) else (bst (fun d => anS S 1 (sdr (tvS S t) ((d : Nat) : Int))) 1000000 d).2) := by
        simp only [bst]
        by_cases q : anS S 1 (sdr (tvS S t) (d : Int)) ≠ -4 ∧ anS S 1 (sdr (tvS S t) (d : Int)) < (bst (fun d => anS S 1 (sdr (tvS S t) ((d : Nat) : Int))) 1000000 d).2
        · rw [if_pos q, if_pos q, if_pos q]
        · rw [if_neg q, if_neg q, if_neg q]
      rw [e2] at h
      exact mRun.im h (fun v h => outm_tr (frm_lo hfQ))

set_option maxRecDepth 100000 in
theorem g_fastest {σ : List mC} {I : mI} {S : Sx} {B : Int} {t : Int} (hM : MS σ I S) (hS : SxOk B S) (ht : -2147483648 ≤ t ∧ t < 2147483648) : mMt mX9_fastest [mr 144, mi t] (σ, I) (OutM σ I S (a_fastest S t)) := by
  refine mMt.of pl_9 (Nat.le_of_ble_eq_true rfl) ?_
  show mRun mZt mX9_fastest 0 [some (mr 144), some (mi t), none, none, none, none] [] (σ, I) _
  have hI := hM.1
  have hD := hM.2.1
  have hL := hS.1
  have hsz := hM.2.2.1
  have hLR := hM.2.2.2.2.2.2.1
  have hF := hM.2.2.2.2.2.2.2.1
  have hun := hM.2.2.2.2.2.2.2.2.1
  have hpa := hM.2.2.2.2.2.2.2.2.2.1
  have hkm := hM.2.2.2.2.2.2.2.2.2.2.1
  have hke := hM.2.2.2.2.2.2.2.2.2.2.2.1
  have hhm := hM.2.2.2.2.2.2.2.2.2.2.2.2.1
  have hhe := hM.2.2.2.2.2.2.2.2.2.2.2.2.2.1
  have hN := hM.2.2.2.2.2.2.2.2.2.2.2.2.2.2
  have hpr := lp_rng hL
  have hqe := lq_eq hL
  have hwr := hL.2.1
  have hrr := hL.1
  have hdr := hL.2.2.1
  have hnt := hL.2.2.2.1
  have hwF := hS.2.1.1
  have hhF := hS.2.1.2.1
  have hvF := hS.2.1.2.2.2
  have hH8 := hS.2.2.2.2.2.2.1
  have hU8 := hS.2.2.1
  have hK2 := hS.2.2.2.2.1
  have hLn := hS.2.2.2.2.2.2.2.2
  refine mRun.go (q_aload_n dX9_fastest_0 rfl rfl) ?_
  refine mRun.go (q_iload_n dX9_fastest_1 rfl rfl) ?_
  refine mRun.go (q_callVi (r := 144) [mi t] [] dX9_fastest_2 co_X9_203 ⟨Nat.le_of_ble_eq_true rfl, Nat.le_of_ble_eq_true rfl⟩ gw_950 gs_41 rfl hD.1 rfl rfl rfl (Nat.le_of_ble_eq_true rfl) (m_isTraveller hI hD hL hLR hN ht)) ?_
  refine r_if_ne (tgt := 10) dX9_fastest_5 (by decide) (by split <;> omega) (fun c5 => ?_) (fun c5 => ?_)
  · have h5 := ite01 c5
    refine mRun.go (q_aload_n dX9_fastest_10 rfl rfl) ?_
    refine mRun.go (q_getR dX9_fastest_11 fo_X9_16 hD.1 rfl) ?_
    refine mRun.go (q_sipush dX9_fastest_14 (by decide)) ?_
    refine mRun.go (q_iload_n dX9_fastest_17 rfl rfl) ?_
    refine mRun.go (q_iadd dX9_fastest_18) ?_
    refine mRun.go (q_ialdE (x := (fV (sF S) t.toNat).2.2.2.1) dX9_fastest_19 hD.2.2.2.1 (by omega) (by omega) (by have h := (tv6i (hF.2.2.2 t.toNat (by omega))).2.2.2.1; rw [show ((t.toNat : Nat) : Int) = t by omega] at h; exact h)) ?_
    refine r_if_eq (tgt := 26) dX9_fastest_20 (by decide) (by rw [← (tv6i (hF.2.2.2 t.toNat (by omega))).2.2.2.1]; exact hI _ _) (fun c20 => ?_) (fun c20 => ?_)
    · refine mRun.go (q_bipush dX9_fastest_26 (by decide)) ?_
      refine mRun.go (q_istore_n (ls' := [some (mr 144), some (mi t), some (mi (-4)), none, none, none]) dX9_fastest_28 rfl (Nat.le_of_ble_eq_true rfl) rfl) ?_
      refine mRun.go (q_ldc (a := 1000000) dX9_fastest_29 gw_965) ?_
      refine mRun.go (q_istore_n (ls' := [some (mr 144), some (mi t), some (mi (-4)), some (mi 1000000), none, none]) dX9_fastest_31 rfl (Nat.le_of_ble_eq_true rfl) rfl) ?_
      refine mRun.go (q_iconst dX9_fastest_32) ?_
      refine mRun.go (q_istore (ls' := [some (mr 144), some (mi t), some (mi (-4)), some (mi 1000000), some (mi 0), none]) dX9_fastest_33 (Nat.le_of_ble_eq_true rfl) rfl) ?_
      have e : a_fastest S t = (bst (fun d => anS S 1 (sdr (tvS S t) ((d : Nat) : Int))) 1000000 (lD (sL S)).toNat).1 := by simp only [a_fastest, isT]; rw [if_pos (by omega), if_pos c20]
      rw [e]
      exact g_fastest_loop hS (by omega) ((lD (sL S)).toNat + 1) 0 I none (by omega) (by omega) hM
    · refine mRun.go (q_bipush dX9_fastest_23 (by decide)) ?_
      refine r_iret dX9_fastest_25 rfl ?_
      have e : a_fastest S t = (-2) := by simp only [a_fastest, isT]; rw [if_pos (by omega), if_neg c20]
      rw [e]
      exact outm_q hM hS hI frm_rf
  · have h5 := ite00 (Classical.not_not.mp c5)
    refine mRun.go (q_iconst dX9_fastest_8) ?_
    refine r_iret dX9_fastest_9 rfl ?_
    have e : a_fastest S t = (-1) := by simp only [a_fastest, isT]; rw [if_neg (by omega)]
    rw [e]
    exact outm_q hM hS hI frm_rf
