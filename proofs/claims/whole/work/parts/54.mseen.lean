/-! ===== the reference: seen, clash, meet, tune ===== -/
/-- from the last place down -/
def dwL (p : Nat → Bool) (P : Nat) : Nat → Int
  | 0 => -4
  | m + 1 => if p (P - 1 - m) = true then ((P - 1 - m : Nat) : Int) else dwL p P m
def dwC (p : Nat → Bool) (P : Nat) : Nat → Int
  | 0 => 0
  | m + 1 => dwC p P m + (if p (P - 1 - m) = true then 1 else 0)
theorem dwC_eq {p : Nat → Bool} {P : Nat} : ∀ m : Nat, m ≤ P → cntB p P = cntB p (P - m) + dwC p P m := by
  intro m
  induction m with
  | zero => intro _; simp [dwC]
  | succ m ih =>
    intro hm
    rw [ih (by omega), show P - m = (P - (m + 1)) + 1 by omega]
    simp only [cntB, dwC]
    rw [show P - 1 - m = P - (m + 1) by omega]
    omega
theorem dwL_eq {p : Nat → Bool} {P : Nat} : ∀ m : Nat, m ≤ P → lowB p P = if lowB p (P - m) = -4 then dwL p P m else lowB p (P - m) := by
  intro m
  induction m with
  | zero =>
    intro _
    rw [Nat.sub_zero]
    split
    · next q => rw [q]; rfl
    · rfl
  | succ m ih =>
    intro hm
    rw [ih (by omega)]
    have e : P - m = (P - (m + 1)) + 1 := by omega
    have hr := lowB_rng p (P - (m + 1))
    have eD : dwL p P (m + 1) = if p (P - (m + 1)) = true then ((P - (m + 1) : Nat) : Int) else dwL p P m := by
      simp only [dwL]
      rw [show P - 1 - m = P - (m + 1) by omega]
    have eL : lowB p (P - (m + 1) + 1) = if lowB p (P - (m + 1)) = -4 ∧ p (P - (m + 1)) = true then ((P - (m + 1) : Nat) : Int) else lowB p (P - (m + 1)) := rfl
    rw [e, eD]
    by_cases q : lowB p (P - (m + 1)) = -4
    · by_cases z : p (P - (m + 1)) = true
      · have e1 : lowB p (P - (m + 1) + 1) = ((P - (m + 1) : Nat) : Int) := by rw [eL, if_pos ⟨q, z⟩]
        rw [e1, if_neg (by omega), if_pos q, if_pos z]
      · have e1 : lowB p (P - (m + 1) + 1) = -4 := by rw [eL, if_neg (fun w => z w.2), q]
        rw [e1, if_pos rfl, if_pos q, if_neg z]
    · have e1 : lowB p (P - (m + 1) + 1) = lowB p (P - (m + 1)) := by rw [eL, if_neg (fun w => q w.1)]
      rw [e1, if_neg q, if_neg q]
theorem dw_end {p : Nat → Bool} {P : Nat} : cntB p P = dwC p P P ∧ lowB p P = dwL p P P := by
  have h1 := @dwC_eq p P P (Nat.le_refl P)
  have h2 := @dwL_eq p P P (Nat.le_refl P)
  rw [Nat.sub_self] at h1 h2
  refine ⟨by rw [h1]; simp [cntB], by rw [h2]; rfl⟩
theorem dwC_rng {p : Nat → Bool} {P : Nat} : ∀ m : Nat, 0 ≤ dwC p P m ∧ dwC p P m ≤ m := by
  intro m
  induction m with
  | zero => exact ⟨by simp [dwC], by simp [dwC]⟩
  | succ m ih => simp only [dwC]; split <;> omega
theorem dwL_rng {p : Nat → Bool} {P : Nat} : ∀ m : Nat, m ≤ P → dwL p P m = -4 ∨ (0 ≤ dwL p P m ∧ dwL p P m < P) := by
  intro m
  induction m with
  | zero => intro _; exact Or.inl rfl
  | succ m ih => intro h; simp only [dwL]; split <;> have := ih (by omega) <;> omega

set_option maxRecDepth 100000 in
theorem g_clash_loop {σ : List mC} {I : mI} {S : Sx} {B d e v : Int} (hM : MS σ I S) (hS : SxOk B S) (hd : isD S d) (he : isD S e) (hv : 0 ≤ v ∧ v ≤ 1) : ∀ (n m : Nat) (xx : Int) (o7 : Option mV), lQ (sL S) - m < n → m ≤ lQ (sL S) → xx = (lQ (sL S) : Int) - 1 - (m : Int) → mRun mZt mX9_clash 53 [some (mr 144), some (mi d), some (mi e), some (mi v), some (mi (dwC (clB S d e) (lQ (sL S)) m)), some (mi (dwL (clB S d e) (lQ (sL S)) m)), some (mi xx), o7] [] (σ, I) (OutM σ I S (if v = 0 then cntB (clB S d e) (lQ (sL S)) else lowB (clB S d e) (lQ (sL S)))) := by
  intro n
  induction n with
  | zero => intro m xx o7 h; omega
  | succ n ih =>
    intro m xx o7 hn hm hxx
    have hI := hM.1
    have hD := hM.2.1
    have hL := hS.1
    have hsz := hM.2.2.1
    have hLR := hM.2.2.2.2.2.2.1
    have hF := hM.2.2.2.2.2.2.2.1
    have hun := hM.2.2.2.2.2.2.2.2.1
    have hpa := hM.2.2.2.2.2.2.2.2.2.1
    have hkm := hM.2.2.2.2.2.2.2.2.2.2.1
    have hke := hM.2.2.2.2.2.2.2.2.2.2.2.1
    have hhm := hM.2.2.2.2.2.2.2.2.2.2.2.2.1
    have hhe := hM.2.2.2.2.2.2.2.2.2.2.2.2.2.1
    have hN := hM.2.2.2.2.2.2.2.2.2.2.2.2.2.2
    have hpr := lp_rng hL
    have hqe := lq_eq hL
    have hwr := hL.2.1
    have hrr := hL.1
    have hdr := hL.2.2.1
    have hnt := hL.2.2.2.1
    have hwF := hS.2.1.1
    have hhF := hS.2.1.2.1
    have hvF := hS.2.1.2.2.2
    have hH8 := hS.2.2.2.2.2.2.1
    have hU8 := hS.2.2.1
    have hK2 := hS.2.2.2.2.1
    have hLn := hS.2.2.2.2.2.2.2.2
    have hd : 0 ≤ d ∧ d < lD (sL S) := hd
    have he : 0 ≤ e ∧ e < lD (sL S) := he
    have hb := @dwC_rng (clB S d e) (lQ (sL S)) m
    have hb2 := @dwL_rng (clB S d e) (lQ (sL S)) m hm
    refine mRun.go (q_iload dX9_clash_53 rfl) ?_
    refine r_if_lt (tgt := 123) dX9_clash_55 (by decide) (by omega) (fun c55 => ?_) (fun c55 => ?_)
    · refine mRun.go (q_iload_n dX9_clash_123 rfl rfl) ?_
      refine r_if_ne (tgt := 132) dX9_clash_124 (by decide) (by omega) (fun c124 => ?_) (fun c124 => ?_)
      · refine mRun.go (q_iload dX9_clash_132 rfl) ?_
        refine r_iret dX9_clash_134 rfl ?_
        have hme : m = lQ (sL S) := by omega
        have hde := @dw_end (clB S d e) (lQ (sL S))
        rw [if_neg c124, hde.2, hme]
        exact outm_q hM hS hI frm_rf
      · refine mRun.go (q_iload dX9_clash_127 rfl) ?_
        refine mRun.go (q_goto (tgt := 134) dX9_clash_129 (by decide)) ?_
        refine r_iret dX9_clash_134 rfl ?_
        have hme : m = lQ (sL S) := by omega
        have hde := @dw_end (clB S d e) (lQ (sL S))
        rw [if_pos (Classical.not_not.mp c124), hde.1, hme]
        exact outm_q hM hS hI frm_rf
    · obtain ⟨xn, hxn⟩ : ∃ xn : Nat, (xn : Int) = xx := ⟨xx.toNat, by omega⟩
      refine mRun.go (q_aload_n dX9_clash_58 rfl rfl) ?_
      refine mRun.go (q_getR dX9_clash_59 fo_X9_16 hD.1 rfl) ?_
      refine mRun.go (q_iload_n dX9_clash_62 rfl rfl) ?_
      refine mRun.go (q_iload dX9_clash_63 rfl) ?_
      refine mRun.go (q_callSi [mr 147, mi d, mi xx] [] dX9_clash_65 co_X9_172 ⟨Nat.le_of_ble_eq_true rfl, Nat.le_of_ble_eq_true rfl⟩ gw_934 rfl rfl (Nat.le_of_ble_eq_true rfl) (m_tells hI hD hL hLR hD.2.2.2.1 hF (by omega) (by omega))) ?_
      refine mRun.go (q_aload_n dX9_clash_68 rfl rfl) ?_
      refine mRun.go (q_getR dX9_clash_69 fo_X9_16 hD.1 rfl) ?_
      refine mRun.go (q_iload_n dX9_clash_72 rfl rfl) ?_
      refine mRun.go (q_iload dX9_clash_73 rfl) ?_
      refine mRun.go (q_callSi [mr 147, mi e, mi xx] [mi (fT (sF S) (36 * d + xx))] dX9_clash_75 co_X9_172 ⟨Nat.le_of_ble_eq_true rfl, Nat.le_of_ble_eq_true rfl⟩ gw_934 rfl rfl (Nat.le_of_ble_eq_true rfl) (m_tells hI hD hL hLR hD.2.2.2.1 hF (by omega) (by omega))) ?_
      have j78 : ∀ {post : Option mV → mH → Prop}, mRun mZt mX9_clash 86 [some (mr 144), some (mi d), some (mi e), some (mi v), some (mi (dwC (clB S d e) (lQ (sL S)) m)), some (mi (dwL (clB S d e) (lQ (sL S)) m)), some (mi xx), o7] [mi (if clB S d e xn = true then 1 else 0)] (σ, I) post → mRun mZt mX9_clash 78 [some (mr 144), some (mi d), some (mi e), some (mi v), some (mi (dwC (clB S d e) (lQ (sL S)) m)), some (mi (dwL (clB S d e) (lQ (sL S)) m)), some (mi xx), o7] [mi (fT (sF S) (36 * e + xx)), mi (fT (sF S) (36 * d + xx))] (σ, I) post := by
        intro post k
        refine r_icmp_eq (tgt := 85) dX9_clash_78 (by decide) (tellsM_rng hI hF (by omega) (by omega)) (tellsM_rng hI hF (by omega) (by omega)) (fun c78 => ?_) (fun c78 => ?_)
        · refine mRun.go (q_iconst dX9_clash_85) ?_
          first | (rw [if_pos (show clB S d e xn = true from decide_eq_true (by show tlS S d (xn : Int) ≠ tlS S e (xn : Int); rw [hxn]; exact c78))] at k; exact k) | (rw [if_neg (show ¬ clB S d e xn = true from fun q => (of_decide_eq_true q) (by show tlS S d (xn : Int) = tlS S e (xn : Int); rw [hxn]; exact c78))] at k; exact k)
        · refine mRun.go (q_iconst dX9_clash_81) ?_
          refine mRun.go (q_goto (tgt := 86) dX9_clash_82 (by decide)) ?_
          first | (rw [if_pos (show clB S d e xn = true from decide_eq_true (by show tlS S d (xn : Int) ≠ tlS S e (xn : Int); rw [hxn]; exact c78))] at k; exact k) | (rw [if_neg (show ¬ clB S d e xn = true from fun q => (of_decide_eq_true q) (by show tlS S d (xn : Int) = tlS S e (xn : Int); rw [hxn]; exact c78))] at k; exact k)
      refine j78 ?_
      refine mRun.go (q_istore (ls' := [some (mr 144), some (mi d), some (mi e), some (mi v), some (mi (dwC (clB S d e) (lQ (sL S)) m)), some (mi (dwL (clB S d e) (lQ (sL S)) m)), some (mi xx), some (mi (if clB S d e xn = true then 1 else 0))]) dX9_clash_86 (Nat.le_of_ble_eq_true rfl) rfl) ?_
      refine mRun.go (q_iload dX9_clash_88 rfl) ?_
      refine mRun.go (q_iload dX9_clash_90 rfl) ?_
      have j92 : ∀ {post : Option mV → mH → Prop}, mRun mZt mX9_clash 100 [some (mr 144), some (mi d), some (mi e), some (mi v), some (mi (dwC (clB S d e) (lQ (sL S)) m)), some (mi (dwL (clB S d e) (lQ (sL S)) m)), some (mi xx), some (mi (if clB S d e xn = true then 1 else 0))] [mi (if clB S d e xn = true then 1 else 0), mi (dwC (clB S d e) (lQ (sL S)) m)] (σ, I) post → mRun mZt mX9_clash 92 [some (mr 144), some (mi d), some (mi e), some (mi v), some (mi (dwC (clB S d e) (lQ (sL S)) m)), some (mi (dwL (clB S d e) (lQ (sL S)) m)), some (mi xx), some (mi (if clB S d e xn = true then 1 else 0))] [mi (if clB S d e xn = true then 1 else 0), mi (dwC (clB S d e) (lQ (sL S)) m)] (σ, I) post := by
        intro post k
        refine r_if_eq (tgt := 99) dX9_clash_92 (by decide) (by split <;> omega) (fun c92 => ?_) (fun c92 => ?_)
        · refine mRun.go (q_iconst dX9_clash_99) ?_
          first | (rw [if_neg (ite00 c92)] at k ⊢; exact k) | (rw [if_pos (ite01 c92)] at k ⊢; exact k)
        · refine mRun.go (q_iconst dX9_clash_95) ?_
          refine mRun.go (q_goto (tgt := 100) dX9_clash_96 (by decide)) ?_
          first | (rw [if_neg (ite00 c92)] at k ⊢; exact k) | (rw [if_pos (ite01 c92)] at k ⊢; exact k)
      refine j92 ?_
      refine mRun.go (q_iadd dX9_clash_100) ?_
      refine mRun.go (q_istore (ls' := [some (mr 144), some (mi d), some (mi e), some (mi v), some (mi ((dwC (clB S d e) (lQ (sL S)) m) + (if clB S d e xn = true then 1 else 0))), some (mi (dwL (clB S d e) (lQ (sL S)) m)), some (mi xx), some (mi (if clB S d e xn = true then 1 else 0))]) dX9_clash_101 (Nat.le_of_ble_eq_true rfl) rfl) ?_
      refine mRun.go (q_iload dX9_clash_103 rfl) ?_
      have j105 : ∀ {post : Option mV → mH → Prop}, mRun mZt mX9_clash 115 [some (mr 144), some (mi d), some (mi e), some (mi v), some (mi ((dwC (clB S d e) (lQ (sL S)) m) + (if clB S d e xn = true then 1 else 0))), some (mi (dwL (clB S d e) (lQ (sL S)) m)), some (mi xx), some (mi (if clB S d e xn = true then 1 else 0))] [mi (if clB S d e xn = true then xx else dwL (clB S d e) (lQ (sL S)) m)] (σ, I) post → mRun mZt mX9_clash 105 [some (mr 144), some (mi d), some (mi e), some (mi v), some (mi ((dwC (clB S d e) (lQ (sL S)) m) + (if clB S d e xn = true then 1 else 0))), some (mi (dwL (clB S d e) (lQ (sL S)) m)), some (mi xx), some (mi (if clB S d e xn = true then 1 else 0))] [mi (if clB S d e xn = true then 1 else 0)] (σ, I) post := by
        intro post k
        refine r_if_eq (tgt := 113) dX9_clash_105 (by decide) (by split <;> omega) (fun c105 => ?_) (fun c105 => ?_)
        · refine mRun.go (q_iload dX9_clash_113 rfl) ?_
          first | (rw [if_neg (ite00 c105), if_neg (ite00 c105)] at k; rw [if_neg (ite00 c105)]; exact k) | (rw [if_pos (ite01 c105), if_pos (ite01 c105)] at k; rw [if_pos (ite01 c105)]; exact k)
        · refine mRun.go (q_iload dX9_clash_108 rfl) ?_
          refine mRun.go (q_goto (tgt := 115) dX9_clash_110 (by decide)) ?_
          first | (rw [if_neg (ite00 c105), if_neg (ite00 c105)] at k; rw [if_neg (ite00 c105)]; exact k) | (rw [if_pos (ite01 c105), if_pos (ite01 c105)] at k; rw [if_pos (ite01 c105)]; exact k)
      refine j105 ?_
      refine mRun.go (q_istore (ls' := [some (mr 144), some (mi d), some (mi e), some (mi v), some (mi ((dwC (clB S d e) (lQ (sL S)) m) + (if clB S d e xn = true then 1 else 0))), some (mi (if clB S d e xn = true then xx else dwL (clB S d e) (lQ (sL S)) m)), some (mi xx), some (mi (if clB S d e xn = true then 1 else 0))]) dX9_clash_115 (Nat.le_of_ble_eq_true rfl) rfl) ?_
      refine mRun.go (q_iinc (ls' := [some (mr 144), some (mi d), some (mi e), some (mi v), some (mi ((dwC (clB S d e) (lQ (sL S)) m) + (if clB S d e xn = true then 1 else 0))), some (mi (if clB S d e xn = true then xx else dwL (clB S d e) (lQ (sL S)) m)), some (mi (xx + (-1))), some (mi (if clB S d e xn = true then 1 else 0))]) dX9_clash_117 rfl (Nat.le_of_ble_eq_true rfl) rfl) ?_
      refine mRun.go (q_goto (tgt := 53) dX9_clash_120 (by decide)) ?_
      have e1 : xx + (-1) = (lQ (sL S) : Int) - 1 - ((m + 1 : Nat) : Int) := by omega
      have h := ih (m + 1) ((lQ (sL S) : Int) - 1 - ((m + 1 : Nat) : Int)) (some (mi (if clB S d e xn = true then 1 else 0))) (by omega) (by omega) rfl
      have e2 : dwC (clB S d e) (lQ (sL S)) (m + 1) = dwC (clB S d e) (lQ (sL S)) m + (if clB S d e xn = true then 1 else 0) := by simp only [dwC]; rw [show lQ (sL S) - 1 - m = xn by omega]
      have e3 : dwL (clB S d e) (lQ (sL S)) (m + 1) = if clB S d e xn = true then xx else dwL (clB S d e) (lQ (sL S)) m := by simp only [dwL]; rw [show lQ (sL S) - 1 - m = xn by omega, hxn]
      rw [e2, e3] at h
      rw [e1]
      exact h

set_option maxRecDepth 100000 in
theorem g_clash {σ : List mC} {I : mI} {S : Sx} {B : Int} {d e v : Int} (hM : MS σ I S) (hS : SxOk B S) (hd : -2147483648 ≤ d ∧ d < 2147483648) (he : -2147483648 ≤ e ∧ e < 2147483648) (hv : -2147483648 ≤ v ∧ v < 2147483648) : mMt mX9_clash [mr 144, mi d, mi e, mi v] (σ, I) (OutM σ I S (a_clash S d e v)) := by
  refine mMt.of pl_9 (Nat.le_of_ble_eq_true rfl) ?_
  show mRun mZt mX9_clash 0 [some (mr 144), some (mi d), some (mi e), some (mi v), none, none, none, none] [] (σ, I) _
  have hI := hM.1
  have hD := hM.2.1
  have hL := hS.1
  have hsz := hM.2.2.1
  have hLR := hM.2.2.2.2.2.2.1
  have hF := hM.2.2.2.2.2.2.2.1
  have hun := hM.2.2.2.2.2.2.2.2.1
  have hpa := hM.2.2.2.2.2.2.2.2.2.1
  have hkm := hM.2.2.2.2.2.2.2.2.2.2.1
  have hke := hM.2.2.2.2.2.2.2.2.2.2.2.1
  have hhm := hM.2.2.2.2.2.2.2.2.2.2.2.2.1
  have hhe := hM.2.2.2.2.2.2.2.2.2.2.2.2.2.1
  have hN := hM.2.2.2.2.2.2.2.2.2.2.2.2.2.2
  have hpr := lp_rng hL
  have hqe := lq_eq hL
  have hwr := hL.2.1
  have hrr := hL.1
  have hdr := hL.2.2.1
  have hnt := hL.2.2.2.1
  have hwF := hS.2.1.1
  have hhF := hS.2.1.2.1
  have hvF := hS.2.1.2.2.2
  have hH8 := hS.2.2.2.2.2.2.1
  have hU8 := hS.2.2.1
  have hK2 := hS.2.2.2.2.1
  have hLn := hS.2.2.2.2.2.2.2.2
  refine mRun.go (q_aload_n dX9_clash_0 rfl rfl) ?_
  refine mRun.go (q_iload_n dX9_clash_1 rfl rfl) ?_
  refine mRun.go (q_callVi (r := 144) [mi d] [] dX9_clash_2 co_X9_198 ⟨Nat.le_of_ble_eq_true rfl, Nat.le_of_ble_eq_true rfl⟩ gw_930 gs_39 rfl hD.1 rfl rfl rfl (Nat.le_of_ble_eq_true rfl) (m_isDrum hI hD hL hLR hd)) ?_
  refine r_if_eq (tgt := 31) dX9_clash_5 (by decide) (by split <;> omega) (fun c5 => ?_) (fun c5 => ?_)
  · have h5 := ite00 c5
    refine mRun.go (q_iconst dX9_clash_31) ?_
    refine r_iret dX9_clash_32 rfl ?_
    have e0 : a_clash S d e v = (-1) := by simp only [a_clash, isD]; rw [if_neg (by omega)]
    rw [e0]
    exact outm_q hM hS hI frm_rf
  · have h5 := ite01 c5
    refine mRun.go (q_aload_n dX9_clash_8 rfl rfl) ?_
    refine mRun.go (q_iload_n dX9_clash_9 rfl rfl) ?_
    refine mRun.go (q_callVi (r := 144) [mi e] [] dX9_clash_10 co_X9_198 ⟨Nat.le_of_ble_eq_true rfl, Nat.le_of_ble_eq_true rfl⟩ gw_930 gs_39 rfl hD.1 rfl rfl rfl (Nat.le_of_ble_eq_true rfl) (m_isDrum hI hD hL hLR he)) ?_
    refine r_if_eq (tgt := 31) dX9_clash_13 (by decide) (by split <;> omega) (fun c13 => ?_) (fun c13 => ?_)
    · have h13 := ite00 c13
      refine mRun.go (q_iconst dX9_clash_31) ?_
      refine r_iret dX9_clash_32 rfl ?_
      have e0 : a_clash S d e v = (-1) := by simp only [a_clash, isD]; rw [if_neg (by omega)]
      rw [e0]
      exact outm_q hM hS hI frm_rf
    · have h13 := ite01 c13
      refine mRun.go (q_iload_n dX9_clash_16 rfl rfl) ?_
      refine mRun.go (q_iload_n dX9_clash_17 rfl rfl) ?_
      refine r_icmp_eq (tgt := 31) dX9_clash_18 (by decide) hd he (fun c18 => ?_) (fun c18 => ?_)
      · refine mRun.go (q_iconst dX9_clash_31) ?_
        refine r_iret dX9_clash_32 rfl ?_
        have e0 : a_clash S d e v = (-1) := by simp only [a_clash, isD]; rw [if_neg (by omega)]
        rw [e0]
        exact outm_q hM hS hI frm_rf
      · refine mRun.go (q_iload_n dX9_clash_21 rfl rfl) ?_
        refine mRun.go (q_i2l dX9_clash_22 hv) ?_
        refine mRun.go (q_lconst (a := 0) dX9_clash_23 (by decide)) ?_
        refine mRun.go (q_lconst (a := 1) dX9_clash_24 (by decide)) ?_
        refine mRun.go (q_callSi [ml v, ml 0, ml 1] [] dX9_clash_25 co_X9_114 ⟨Nat.le_of_ble_eq_true rfl, Nat.le_of_ble_eq_true rfl⟩ gw_855 rfl rfl (Nat.le_of_ble_eq_true rfl) (k_in (by omega) (by omega) (by omega))) ?_
        refine r_if_ne (tgt := 33) dX9_clash_28 (by decide) (by split <;> omega) (fun c28 => ?_) (fun c28 => ?_)
        · have h28 := ite01 c28
          refine mRun.go (q_iconst dX9_clash_33) ?_
          refine mRun.go (q_istore (ls' := [some (mr 144), some (mi d), some (mi e), some (mi v), some (mi 0), none, none, none]) dX9_clash_34 (Nat.le_of_ble_eq_true rfl) rfl) ?_
          refine mRun.go (q_bipush dX9_clash_36 (by decide)) ?_
          refine mRun.go (q_istore (ls' := [some (mr 144), some (mi d), some (mi e), some (mi v), some (mi 0), some (mi (-4)), none, none]) dX9_clash_38 (Nat.le_of_ble_eq_true rfl) rfl) ?_
          refine mRun.go (q_aload_n dX9_clash_40 rfl rfl) ?_
          refine mRun.go (q_getE (x := lR (sL S)) dX9_clash_41 fo_X9_85 hD.1 rfl hLR.1) ?_
          refine mRun.go (q_aload_n dX9_clash_44 rfl rfl) ?_
          refine mRun.go (q_getE (x := lW (sL S)) dX9_clash_45 fo_X9_88 hD.1 rfl hLR.2.1) ?_
          refine mRun.go (q_imul dX9_clash_48) ?_
          refine mRun.go (q_iconst dX9_clash_49) ?_
          refine mRun.go (q_isub dX9_clash_50) ?_
          refine mRun.go (q_istore (ls' := [some (mr 144), some (mi d), some (mi e), some (mi v), some (mi 0), some (mi (-4)), some (mi (((lR (sL S)) * (lW (sL S))) - 1)), none]) dX9_clash_51 (Nat.le_of_ble_eq_true rfl) rfl) ?_
          have e0 : a_clash S d e v = (if v = 0 then cntB (clB S d e) (lQ (sL S)) else lowB (clB S d e) (lQ (sL S))) := by
            simp only [a_clash, isD]
            rw [if_pos (by omega)]
          rw [e0]
          exact g_clash_loop hM hS (by omega) (by omega) (by omega) (lQ (sL S) + 1) 0 _ none (by omega) (by omega) (by have : lR (sL S) * lW (sL S) = lP (sL S) := rfl; omega)
        · have h28 := ite00 (Classical.not_not.mp c28)
          refine mRun.go (q_iconst dX9_clash_31) ?_
          refine r_iret dX9_clash_32 rfl ?_
          have e0 : a_clash S d e v = (-1) := by simp only [a_clash, isD]; rw [if_neg (by omega)]
          rw [e0]
          exact outm_q hM hS hI frm_rf

set_option maxRecDepth 100000 in
theorem m_seen_in {σ : List mC} {I : mI} {S : Sx} {B t x b : Int} {N : Nat} (hM : MS σ I S) (hS : SxOk B S) (htt : isT S t) (hN30 : N ≤ 30) {d : Nat} (hd : (d : Int) < lD (sL S)) {post : Option mV → mH → Prop} (kk : ∀ K : mI, Nrm K → FrM I K → FRM K 148 0 (sL S) (setV (sF S) t.toNat (iter (sfx (sL S) (fT (sF S)) (fW (sF S)) (d : Int) (tvS S t).2.1) N (sdr (tvS S t) (d : Int)))) → TvM (lP (sL S)) (lD (sL S)) (iter (sfx (sL S) (fT (sF S)) (fW (sF S)) (d : Int) (tvS S t).2.1) N (sdr (tvS S t) (d : Int))) → mRun mZt mX9_seen 97 [some (mr 144), some (mi t), some (mi x), some (mi (N : Int)), some (mi b), some (mi (d : Int)), some (mi (N : Int))] [] (σ, K) post) : ∀ (n m : Nat) (K : mI) (v : Tv), N - m < n → m ≤ N → Nrm K → FrM I K → FRM K 148 0 (sL S) (setV (sF S) t.toNat v) → TvM (lP (sL S)) (lD (sL S)) v → (v.2.2.1 = (d : Int) ∧ v.2.1 = (tvS S t).2.1) → v = iter (sfx (sL S) (fT (sF S)) (fW (sF S)) (d : Int) (tvS S t).2.1) m (sdr (tvS S t) (d : Int)) → mRun mZt mX9_seen 76 [some (mr 144), some (mi t), some (mi x), some (mi (N : Int)), some (mi b), some (mi (d : Int)), some (mi (m : Int))] [] (σ, K) post := by
  intro n
  induction n with
  | zero => intro m K v h; omega
  | succ n ih =>
    intro m K v hn hm hK hfQ hFK hvk hdg hit
    have hI := hM.1
    have hD := hM.2.1
    have hL := hS.1
    have hsz := hM.2.2.1
    have hLR := hM.2.2.2.2.2.2.1
    have hF := hM.2.2.2.2.2.2.2.1
    have hun := hM.2.2.2.2.2.2.2.2.1
    have hpa := hM.2.2.2.2.2.2.2.2.2.1
    have hkm := hM.2.2.2.2.2.2.2.2.2.2.1
    have hke := hM.2.2.2.2.2.2.2.2.2.2.2.1
    have hhm := hM.2.2.2.2.2.2.2.2.2.2.2.2.1
    have hhe := hM.2.2.2.2.2.2.2.2.2.2.2.2.2.1
    have hN := hM.2.2.2.2.2.2.2.2.2.2.2.2.2.2
    have hpr := lp_rng hL
    have hqe := lq_eq hL
    have hwr := hL.2.1
    have hrr := hL.1
    have hdr := hL.2.2.1
    have hnt := hL.2.2.2.1
    have hwF := hS.2.1.1
    have hhF := hS.2.1.2.1
    have hvF := hS.2.1.2.2.2
    have hH8 := hS.2.2.2.2.2.2.1
    have hU8 := hS.2.2.1
    have hK2 := hS.2.2.2.2.1
    have hLn := hS.2.2.2.2.2.2.2.2
    have htt : 0 ≤ t ∧ t < lTv (sL S) := htt
    refine mRun.go (q_iload dX9_seen_76 rfl) ?_
    refine mRun.go (q_iload_n dX9_seen_78 rfl rfl) ?_
    refine r_icmp_ge (tgt := 97) dX9_seen_79 (by decide) (by omega) (by omega) (fun c79 => ?_) (fun c79 => ?_)
    · have hme : m = N := by omega
      subst hme
      exact kk K hK hfQ (by rw [← hit]; exact hFK) (by rw [← hit]; exact hvk)
    · refine mRun.go (q_aload_n dX9_seen_82 rfl rfl) ?_
      refine mRun.go (q_aload_n dX9_seen_83 rfl rfl) ?_
      refine mRun.go (q_getR dX9_seen_84 fo_X9_19 hD.1 rfl) ?_
      refine mRun.go (q_iload_n dX9_seen_87 rfl rfl) ?_
      obtain ⟨v0, h0, hc0, rfl, J, rfl, hJ, hfJ, hFJ⟩ := m_oneGoes (t := t.toNat) hK hD hL (hLR.frm hfQ) hD.2.2.2.2.1 hFK (Or.inr rfl) (by omega) hwF (by rw [setV_at]; exact hvk)
      rw [setV_at, setV_setV] at hFJ
      have hst : stp (sL S) (fT (setV (sF S) t.toNat v)) (fW (setV (sF S) t.toNat v)) v = (sfx (sL S) (fT (sF S)) (fW (sF S)) (d : Int) (tvS S t).2.1) v := by show sfx (sL S) (fT (sF S)) (fW (sF S)) v.2.2.1 v.2.1 v = _; rw [hdg.1, hdg.2]
      rw [hst] at hFJ
      rw [show ((t.toNat : Nat) : Int) = t by omega] at hc0
      refine mRun.go (q_callVv (r := 144) [mr 148, mi t] [] dX9_seen_88 co_X9_214 ⟨Nat.le_of_ble_eq_true rfl, Nat.le_of_ble_eq_true rfl⟩ gw_1000 gs_49 rfl hD.1 rfl rfl rfl (Nat.le_of_ble_eq_true rfl) hc0) ?_
      refine mRun.go (q_iinc (ls' := [some (mr 144), some (mi t), some (mi x), some (mi (N : Int)), some (mi b), some (mi (d : Int)), some (mi ((m : Int) + 1))]) dX9_seen_91 rfl (Nat.le_of_ble_eq_true rfl) rfl) ?_
      refine mRun.go (q_goto (tgt := 76) dX9_seen_94 (by decide)) ?_
      have e1 : ((m : Int) + 1) = ((m + 1 : Nat) : Int) := by omega
      rw [e1]
      have hdg2 := @stepM_dg (hpS (sL S) (fT (sF S)) (fW (sF S)) (d : Int) (tvS S t).2.1) (lG (sL S)) (fW (sF S)) v
      exact ih (m + 1) J ((sfx (sL S) (fT (sF S)) (fW (sF S)) (d : Int) (tvS S t).2.1) v) (by omega) (by omega) hJ (frm_tr hfQ (frm_a hfJ)) hFJ (sfx_ok hL hvk) ⟨hdg2.2.trans hdg.1, hdg2.1.trans hdg.2⟩ (by rw [hit]; exact (iter_s _ m _).symm)

set_option maxRecDepth 100000 in
theorem g_seen_loop {σ : List mC} {S : Sx} {B t x : Int} {N : Nat} (hS : SxOk B S) (htt : isT S t) (hx2 : isP S x) (hN30 : N ≤ 30) : ∀ (n d : Nat) (I : mI) (o6 : Option mV), (lD (sL S)).toNat - d < n → d ≤ (lD (sL S)).toNat → MS σ I S → mRun mZt mX9_seen 36 [some (mr 144), some (mi t), some (mi x), some (mi (N : Int)), some (mi (bts (snB S (tvS S t) x N) d)), some (mi (d : Int)), o6] [] (σ, I) (OutM σ I S (bts (snB S (tvS S t) x N) (lD (sL S)).toNat)) := by
  intro n
  induction n with
  | zero => intro d I o6 h; omega
  | succ n ih =>
    intro d I o6 hn hd0 hM
    have hI := hM.1
    have hD := hM.2.1
    have hL := hS.1
    have hsz := hM.2.2.1
    have hLR := hM.2.2.2.2.2.2.1
    have hF := hM.2.2.2.2.2.2.2.1
    have hun := hM.2.2.2.2.2.2.2.2.1
    have hpa := hM.2.2.2.2.2.2.2.2.2.1
    have hkm := hM.2.2.2.2.2.2.2.2.2.2.1
    have hke := hM.2.2.2.2.2.2.2.2.2.2.2.1
    have hhm := hM.2.2.2.2.2.2.2.2.2.2.2.2.1
    have hhe := hM.2.2.2.2.2.2.2.2.2.2.2.2.2.1
    have hN := hM.2.2.2.2.2.2.2.2.2.2.2.2.2.2
    have hpr := lp_rng hL
    have hqe := lq_eq hL
    have hwr := hL.2.1
    have hrr := hL.1
    have hdr := hL.2.2.1
    have hnt := hL.2.2.2.1
    have hwF := hS.2.1.1
    have hhF := hS.2.1.2.1
    have hvF := hS.2.1.2.2.2
    have hH8 := hS.2.2.2.2.2.2.1
    have hU8 := hS.2.2.1
    have hK2 := hS.2.2.2.2.1
    have hLn := hS.2.2.2.2.2.2.2.2
    have htt : 0 ≤ t ∧ t < lTv (sL S) := htt
    have hx2 : 0 ≤ x ∧ x < lP (sL S) := hx2
    refine mRun.go (q_iload dX9_seen_36 rfl) ?_
    refine mRun.go (q_aload_n dX9_seen_38 rfl rfl) ?_
    refine mRun.go (q_getE (x := lD (sL S)) dX9_seen_39 fo_X9_91 hD.1 rfl hLR.2.2.1) ?_
    refine r_icmp_ge (tgt := 130) dX9_seen_42 (by decide) (by omega) (by omega) (fun c42 => ?_) (fun c42 => ?_)
    · refine mRun.go (q_iload dX9_seen_130 rfl) ?_
      refine r_iret dX9_seen_132 rfl ?_
      have hde : d = (lD (sL S)).toNat := by omega
      subst hde
      exact outm_q hM hS hI frm_rf
    · refine mRun.go (q_aload_n dX9_seen_45 rfl rfl) ?_
      refine mRun.go (q_getR dX9_seen_46 fo_X9_16 hD.1 rfl) ?_
      refine mRun.go (q_iconst dX9_seen_49) ?_
      refine mRun.go (q_aload_n dX9_seen_50 rfl rfl) ?_
      refine mRun.go (q_getR dX9_seen_51 fo_X9_19 hD.1 rfl) ?_
      refine mRun.go (q_iconst dX9_seen_54) ?_
      refine mRun.go (q_sipush dX9_seen_55 (by decide)) ?_
      refine mRun.go (q_callSv [mr 147, mi 0, mr 148, mi 0, mi 170] [] dX9_seen_58 co_X9_97 ⟨Nat.le_of_ble_eq_true rfl, Nat.le_of_ble_eq_true rfl⟩ gw_755 rfl rfl (Nat.le_of_ble_eq_true rfl) (m_copies (i := 0) (j := 0) (m := 170) hI hD.2.2.2.1 hD.2.2.2.2.1 (by decide) (by decide) (by decide) (by decide) (by decide))) ?_
      refine mRun.go (q_aload_n dX9_seen_61 rfl rfl) ?_
      refine mRun.go (q_getR dX9_seen_62 fo_X9_19 hD.1 rfl) ?_
      refine mRun.go (q_sipush dX9_seen_65 (by decide)) ?_
      refine mRun.go (q_iload_n dX9_seen_68 rfl rfl) ?_
      refine mRun.go (q_iadd dX9_seen_69) ?_
      refine mRun.go (q_iload dX9_seen_70 rfl) ?_
      refine mRun.go (q_iast dX9_seen_72 hD.2.2.2.2.1 (by omega) (by omega)) ?_
      refine mRun.go (q_iconst dX9_seen_73) ?_
      refine mRun.go (q_istore (ls' := [some (mr 144), some (mi t), some (mi x), some (mi (N : Int)), some (mi (bts (snB S (tvS S t) x N) d)), some (mi (d : Int)), some (mi 0)]) dX9_seen_74 (Nat.le_of_ble_eq_true rfl) rfl) ?_
      have hFd : FRM (mup (asd I) 148 (154 + t).toNat (d : Int)) 148 0 (sL S) (setV (sF S) t.toNat (sdr (tvS S t) (d : Int))) := frm_drum (asd_f hF hL) hL htt
      refine m_seen_in hM hS (by omega) hN30 (by omega) ?_ (N + 1) 0 _ (sdr (tvS S t) (d : Int)) (by omega) (by omega) (nrm_mup (show Nrm (asd I) from nrm_mcp hI) (by omega)) (frm_tr asd_m (frm_a (fun r p q => mup_nf q))) hFd (sdr_ok (hvF _ (by omega)) (by omega)) ⟨rfl, rfl⟩ rfl
      intro K hK hfQ hFK hvk
      have hpv := hvk.1
      refine mRun.go (q_iload dX9_seen_97 rfl) ?_
      refine mRun.go (q_aload_n dX9_seen_99 rfl rfl) ?_
      refine mRun.go (q_getR dX9_seen_100 fo_X9_19 hD.1 rfl) ?_
      refine mRun.go (q_sipush dX9_seen_103 (by decide)) ?_
      refine mRun.go (q_iload_n dX9_seen_106 rfl rfl) ?_
      refine mRun.go (q_iadd dX9_seen_107) ?_
      refine mRun.go (q_ialdE (x := (iter (sfx (sL S) (fT (sF S)) (fW (sF S)) (d : Int) (tvS S t).2.1) N (sdr (tvS S t) (d : Int))).1) dX9_seen_108 hD.2.2.2.2.1 (by omega) (by omega) (by have h := (tv6i (hFK.2.2.2 t.toNat (by omega))).1; rw [setV_at, show ((t.toNat : Nat) : Int) = t by omega] at h; exact h)) ?_
      refine mRun.go (q_iload_n dX9_seen_109 rfl rfl) ?_
      have j110 : ∀ {post : Option mV → mH → Prop}, mRun mZt mX9_seen 121 [some (mr 144), some (mi t), some (mi x), some (mi (N : Int)), some (mi (bts (snB S (tvS S t) x N) d)), some (mi (d : Int)), some (mi (N : Int))] [mi (if (iter (sfx (sL S) (fT (sF S)) (fW (sF S)) (d : Int) (tvS S t).2.1) N (sdr (tvS S t) (d : Int))).1 = x then mshl 1 (d : Int) else 0), mi (bts (snB S (tvS S t) x N) d)] (σ, K) post → mRun mZt mX9_seen 110 [some (mr 144), some (mi t), some (mi x), some (mi (N : Int)), some (mi (bts (snB S (tvS S t) x N) d)), some (mi (d : Int)), some (mi (N : Int))] [mi x, mi ((iter (sfx (sL S) (fT (sF S)) (fW (sF S)) (d : Int) (tvS S t).2.1) N (sdr (tvS S t) (d : Int))).1), mi (bts (snB S (tvS S t) x N) d)] (σ, K) post := by
        intro post k
        refine r_icmp_ne (tgt := 120) dX9_seen_110 (by decide) (by omega) (by omega) (fun c110 => ?_) (fun c110 => ?_)
        · refine mRun.go (q_iconst dX9_seen_120) ?_
          first | (rw [if_pos (Classical.not_not.mp c110)] at k; exact k) | (rw [if_neg c110] at k; exact k)
        · refine mRun.go (q_iconst dX9_seen_113) ?_
          refine mRun.go (q_iload dX9_seen_114 rfl) ?_
          refine mRun.go (q_ishl dX9_seen_116) ?_
          refine mRun.go (q_goto (tgt := 121) dX9_seen_117 (by decide)) ?_
          first | (rw [if_pos (Classical.not_not.mp c110)] at k; exact k) | (rw [if_neg c110] at k; exact k)
      refine j110 ?_
      refine mRun.go (q_ior dX9_seen_121) ?_
      refine mRun.go (q_istore (ls' := [some (mr 144), some (mi t), some (mi x), some (mi (N : Int)), some (mi (mor (bts (snB S (tvS S t) x N) d) (if (iter (sfx (sL S) (fT (sF S)) (fW (sF S)) (d : Int) (tvS S t).2.1) N (sdr (tvS S t) (d : Int))).1 = x then mshl 1 (d : Int) else 0))), some (mi (d : Int)), some (mi (N : Int))]) dX9_seen_122 (Nat.le_of_ble_eq_true rfl) rfl) ?_
      refine mRun.go (q_iinc (ls' := [some (mr 144), some (mi t), some (mi x), some (mi (N : Int)), some (mi (mor (bts (snB S (tvS S t) x N) d) (if (iter (sfx (sL S) (fT (sF S)) (fW (sF S)) (d : Int) (tvS S t).2.1) N (sdr (tvS S t) (d : Int))).1 = x then mshl 1 (d : Int) else 0))), some (mi ((d : Int) + 1)), some (mi (N : Int))]) dX9_seen_124 rfl (Nat.le_of_ble_eq_true rfl) rfl) ?_
      refine mRun.go (q_goto (tgt := 36) dX9_seen_127 (by decide)) ?_
      have e1 : ((d : Int) + 1) = ((d + 1 : Nat) : Int) := by omega
      rw [e1, bts_s (p := (snB S (tvS S t) x N)) (n := d) (by unfold snB; exact decide_eq_true_iff)]
      exact mRun.im (ih (d + 1) K _ (by omega) (by omega) (ms_q hM hS hK hfQ)) (fun v h => outm_tr (frm_lo hfQ))

set_option maxRecDepth 100000 in
theorem g_seen {σ : List mC} {I : mI} {S : Sx} {B : Int} {t x m : Int} (hM : MS σ I S) (hS : SxOk B S) (ht : -2147483648 ≤ t ∧ t < 2147483648) (hx : -2147483648 ≤ x ∧ x < 2147483648) (hm : -2147483648 ≤ m ∧ m < 2147483648) : mMt mX9_seen [mr 144, mi t, mi x, mi m] (σ, I) (OutM σ I S (a_seen S t x m)) := by
  refine mMt.of pl_9 (Nat.le_of_ble_eq_true rfl) ?_
  show mRun mZt mX9_seen 0 [some (mr 144), some (mi t), some (mi x), some (mi m), none, none, none] [] (σ, I) _
  have hI := hM.1
  have hD := hM.2.1
  have hL := hS.1
  have hsz := hM.2.2.1
  have hLR := hM.2.2.2.2.2.2.1
  have hF := hM.2.2.2.2.2.2.2.1
  have hun := hM.2.2.2.2.2.2.2.2.1
  have hpa := hM.2.2.2.2.2.2.2.2.2.1
  have hkm := hM.2.2.2.2.2.2.2.2.2.2.1
  have hke := hM.2.2.2.2.2.2.2.2.2.2.2.1
  have hhm := hM.2.2.2.2.2.2.2.2.2.2.2.2.1
  have hhe := hM.2.2.2.2.2.2.2.2.2.2.2.2.2.1
  have hN := hM.2.2.2.2.2.2.2.2.2.2.2.2.2.2
  have hpr := lp_rng hL
  have hqe := lq_eq hL
  have hwr := hL.2.1
  have hrr := hL.1
  have hdr := hL.2.2.1
  have hnt := hL.2.2.2.1
  have hwF := hS.2.1.1
  have hhF := hS.2.1.2.1
  have hvF := hS.2.1.2.2.2
  have hH8 := hS.2.2.2.2.2.2.1
  have hU8 := hS.2.2.1
  have hK2 := hS.2.2.2.2.1
  have hLn := hS.2.2.2.2.2.2.2.2
  refine mRun.go (q_aload_n dX9_seen_0 rfl rfl) ?_
  refine mRun.go (q_iload_n dX9_seen_1 rfl rfl) ?_
  refine mRun.go (q_callVi (r := 144) [mi t] [] dX9_seen_2 co_X9_203 ⟨Nat.le_of_ble_eq_true rfl, Nat.le_of_ble_eq_true rfl⟩ gw_950 gs_41 rfl hD.1 rfl rfl rfl (Nat.le_of_ble_eq_true rfl) (m_isTraveller hI hD hL hLR hN ht)) ?_
  refine r_if_eq (tgt := 28) dX9_seen_5 (by decide) (by split <;> omega) (fun c5 => ?_) (fun c5 => ?_)
  · have h5 := ite00 c5
    refine mRun.go (q_iconst dX9_seen_28) ?_
    refine r_iret dX9_seen_29 rfl ?_
    have e0 : a_seen S t x m = (-1) := by simp only [a_seen, isP, isT]; rw [if_neg (by omega)]
    rw [e0]
    exact outm_q hM hS hI frm_rf
  · have h5 := ite01 c5
    refine mRun.go (q_aload_n dX9_seen_8 rfl rfl) ?_
    refine mRun.go (q_iload_n dX9_seen_9 rfl rfl) ?_
    refine mRun.go (q_callVi (r := 144) [mi x] [] dX9_seen_10 co_X9_195 ⟨Nat.le_of_ble_eq_true rfl, Nat.le_of_ble_eq_true rfl⟩ gw_922 gs_38 rfl hD.1 rfl rfl rfl (Nat.le_of_ble_eq_true rfl) (m_isPlace hI hD hL hLR hx)) ?_
    refine r_if_eq (tgt := 28) dX9_seen_13 (by decide) (by split <;> omega) (fun c13 => ?_) (fun c13 => ?_)
    · have h13 := ite00 c13
      refine mRun.go (q_iconst dX9_seen_28) ?_
      refine r_iret dX9_seen_29 rfl ?_
      have e0 : a_seen S t x m = (-1) := by simp only [a_seen, isP, isT]; rw [if_neg (by omega)]
      rw [e0]
      exact outm_q hM hS hI frm_rf
    · have h13 := ite01 c13
      refine mRun.go (q_iload_n dX9_seen_16 rfl rfl) ?_
      refine mRun.go (q_i2l dX9_seen_17 hm) ?_
      refine mRun.go (q_lconst (a := 0) dX9_seen_18 (by decide)) ?_
      refine mRun.go (q_ldc2 (a := 30) dX9_seen_19 gw_1086) ?_
      refine mRun.go (q_callSi [ml m, ml 0, ml 30] [] dX9_seen_22 co_X9_114 ⟨Nat.le_of_ble_eq_true rfl, Nat.le_of_ble_eq_true rfl⟩ gw_855 rfl rfl (Nat.le_of_ble_eq_true rfl) (k_in (by omega) (by omega) (by omega))) ?_
      refine r_if_ne (tgt := 30) dX9_seen_25 (by decide) (by split <;> omega) (fun c25 => ?_) (fun c25 => ?_)
      · have h25 := ite01 c25
        refine mRun.go (q_iconst dX9_seen_30) ?_
        refine mRun.go (q_istore (ls' := [some (mr 144), some (mi t), some (mi x), some (mi m), some (mi 0), none, none]) dX9_seen_31 (Nat.le_of_ble_eq_true rfl) rfl) ?_
        refine mRun.go (q_iconst dX9_seen_33) ?_
        refine mRun.go (q_istore (ls' := [some (mr 144), some (mi t), some (mi x), some (mi m), some (mi 0), some (mi 0), none]) dX9_seen_34 (Nat.le_of_ble_eq_true rfl) rfl) ?_
        have e0 : a_seen S t x m = bts (snB S (tvS S t) x m.toNat) (lD (sL S)).toNat := by simp only [a_seen, isP, isT]; rw [if_pos (by omega)]
        rw [e0]
        have h := g_seen_loop (t := t) (x := x) (N := m.toNat) hS (by omega) (by omega) (by omega) ((lD (sL S)).toNat + 1) 0 I none (by omega) (by omega) hM
        rw [show ((m.toNat : Nat) : Int) = m by omega] at h
        exact h
      · have h25 := ite00 (Classical.not_not.mp c25)
        refine mRun.go (q_iconst dX9_seen_28) ?_
        refine r_iret dX9_seen_29 rfl ?_
        have e0 : a_seen S t x m = (-1) := by simp only [a_seen, isP, isT]; rw [if_neg (by omega)]
        rw [e0]
        exact outm_q hM hS hI frm_rf
