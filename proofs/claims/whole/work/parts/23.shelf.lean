/-! ===== shelves ===== -/
theorem set_same {σ : List mC} {r : Nat} {c : mC} (h : σ[r]? = some c) : σ.set r c = σ := by
  apply List.ext_getElem?
  intro i
  by_cases hi : i = r
  · subst hi
    rw [List.getElem?_set_self (List.getElem?_eq_some_iff.mp h).1, h]
  · rw [List.getElem?_set_ne (Ne.symm hi)]
section E4
variable {Z : mZ} {M : mM} {pc : Nat} {ls : mL} {st : List mV} {σ : List mC} {I : mI}
theorem q_aastS {r t v : Nat} {i : Int} {rs rs' : List (Option Nat)} {fs : List (Option (Option Nat))} (d : decode M.2.1 pc = .ok (.aastore, 1)) (hl : r < σ.length) (ht : t = 1 ∨ t = 2) (hvr : v ≠ r) (hv : σ[v]? = some (.inl (mek t, fs))) (hi : 0 ≤ i ∧ i < (rs.length : Int)) (hn : rs.length < 2147483648) (e : rs.set i.toNat (some v) = rs') : mGo Z M pc ls (mr v :: mi i :: mr r :: st) (σ.set r (.inr (.inr (t, rs))), I) (pc + 1) ls st (σ.set r (.inr (.inr (t, rs'))), I) := by
  have h := q_aast (Z := Z) (M := M) (ls := ls) (st := st) (σ := σ.set r (.inr (.inr (t, rs)))) (I := I) (i := i) d (List.getElem?_set_self hl) ht (by rw [List.getElem?_set_ne (Ne.symm hvr)]; exact hv) hi hn
  rw [List.set_set, e] at h
  exact h
end E4
def IsShelf (σ : List mC) (s : Nat) (sd : List (Option Nat)) : Prop := σ[s]? = some (.inl (4, [some (some (s + 1)), none])) ∧ σ[s + 1]? = some (.inr (.inr (2, sd)))

set_option maxRecDepth 100000 in
theorem k_isFull {σ : List mC} {I : mI} {s : Nat} {sd : List (Option Nat)} (hs : IsShelf σ s sd) (hI : Nrm I) (hn : sd.length < 100) : mCt mX4_isFull [mr s] (σ, I) (some (mi (if I s 1 < (sd.length : Int) then 0 else 1))) (σ, I) := by
  refine mCt.eq ?_
  refine mMt.of pl_4 (Nat.le_of_ble_eq_true rfl) ?_
  show mRun mZt mX4_isFull 0 [some (mr s)] [] (σ, I) _
  refine mRun.go (q_aload_n dX4_isFull_0 rfl rfl) ?_
  refine mRun.go (q_getI dX4_isFull_1 fo_X4_16 hs.1 rfl) ?_
  refine mRun.go (q_aload_n dX4_isFull_4 rfl rfl) ?_
  refine mRun.go (q_getR dX4_isFull_5 fo_X4_9 hs.1 rfl) ?_
  refine mRun.go (q_alenRE (n := sd.length) dX4_isFull_8 hs.2 (Or.inr rfl) rfl) ?_
  refine r_icmp_lt (tgt := 16) dX4_isFull_9 (by decide) (hI _ _) (by omega) (fun c9 => ?_) (fun c9 => ?_)
  · refine mRun.go (q_iconst dX4_isFull_16) ?_
    refine r_zret dX4_isFull_17 rfl (by simp) ?_
    first | (rw [if_pos (by omega)]; exact ⟨rfl, rfl⟩) | (rw [if_neg (by omega)]; exact ⟨rfl, rfl⟩)
  · refine mRun.go (q_iconst dX4_isFull_12) ?_
    refine mRun.go (q_goto (tgt := 17) dX4_isFull_13 (by decide)) ?_
    refine r_zret dX4_isFull_17 rfl (by simp) ?_
    first | (rw [if_pos (by omega)]; exact ⟨rfl, rfl⟩) | (rw [if_neg (by omega)]; exact ⟨rfl, rfl⟩)

set_option maxRecDepth 100000 in
set_option maxHeartbeats 2000000 in
theorem k_drop0 {σ : List mC} {I : mI} {s a0 a1 a2 a3 a4 a5 a6 a7 : Nat} (hs2 : ∀ c, (σ.set (s + 1) c)[s]? = some (.inl (4, [some (some (s + 1)), none]))) (hl : s + 1 < σ.length) (hI : Nrm I) (hv0 : ∃ fs, σ[a0]? = some (.inl (mek 2, fs))) (hv1 : ∃ fs, σ[a1]? = some (.inl (mek 2, fs))) (hv2 : ∃ fs, σ[a2]? = some (.inl (mek 2, fs))) (hv3 : ∃ fs, σ[a3]? = some (.inl (mek 2, fs))) (hv4 : ∃ fs, σ[a4]? = some (.inl (mek 2, fs))) (hv5 : ∃ fs, σ[a5]? = some (.inl (mek 2, fs))) (hv6 : ∃ fs, σ[a6]? = some (.inl (mek 2, fs))) (hv7 : ∃ fs, σ[a7]? = some (.inl (mek 2, fs))) (hn0 : a0 ≠ s + 1) (hn1 : a1 ≠ s + 1) (hn2 : a2 ≠ s + 1) (hn3 : a3 ≠ s + 1) (hn4 : a4 ≠ s + 1) (hn5 : a5 ≠ s + 1) (hn6 : a6 ≠ s + 1) (hn7 : a7 ≠ s + 1) : mCt mX4_dropLowest [mr s] (σ.set (s + 1) (.inr (.inr (2, [some a0, some a1, some a2, some a3, some a4, some a5, some a6, some a7]))), I) none (σ.set (s + 1) (.inr (.inr (2, [some a1, some a2, some a3, some a4, some a5, some a6, some a7, some a0]))), mup I s 1 (I s 1 - 1)) := by
  refine mCt.eq ?_
  refine mMt.of pl_4 (Nat.le_of_ble_eq_true rfl) ?_
  show mRun mZt mX4_dropLowest 0 [some (mr s), none, none] [] (σ.set (s + 1) (.inr (.inr (2, [some a0, some a1, some a2, some a3, some a4, some a5, some a6, some a7]))), I) _
  refine mRun.go (q_aload_n dX4_dropLowest_0 rfl rfl) ?_
  refine mRun.go (q_getR dX4_dropLowest_1 fo_X4_9 (hs2 _) rfl) ?_
  refine mRun.go (q_alenRE (n := 8) dX4_dropLowest_4 (List.getElem?_set_self hl) (Or.inr rfl) rfl) ?_
  refine mRun.go (q_if_ne_t (tgt := 9) dX4_dropLowest_5 (by decide) (by omega) (by decide)) ?_
  refine mRun.go (q_aload_n dX4_dropLowest_9 rfl rfl) ?_
  refine mRun.go (q_getR dX4_dropLowest_10 fo_X4_9 (hs2 _) rfl) ?_
  refine mRun.go (q_iconst dX4_dropLowest_13) ?_
  refine mRun.go (q_aaldE (a := a0) dX4_dropLowest_14 (List.getElem?_set_self hl) (Or.inr rfl) (by simp) (by first | omega | simp) rfl) ?_
  refine mRun.go (q_astore_n (ls' := [some (mr s), some (mr a0), none]) dX4_dropLowest_15 rfl (Nat.le_of_ble_eq_true rfl) rfl) ?_
  refine mRun.go (q_iconst dX4_dropLowest_16) ?_
  refine mRun.go (q_istore_n (ls' := [some (mr s), some (mr a0), some (mi 1)]) dX4_dropLowest_17 rfl (Nat.le_of_ble_eq_true rfl) rfl) ?_
  refine mRun.go (q_iload_n dX4_dropLowest_18 rfl rfl) ?_
  refine mRun.go (q_aload_n dX4_dropLowest_19 rfl rfl) ?_
  refine mRun.go (q_getR dX4_dropLowest_20 fo_X4_9 (hs2 _) rfl) ?_
  refine mRun.go (q_alenRE (n := 8) dX4_dropLowest_23 (List.getElem?_set_self hl) (Or.inr rfl) rfl) ?_
  refine mRun.go (q_icmp_ge_f (tgt := 47) dX4_dropLowest_24 (by decide) (by omega) (by omega) (by decide)) ?_
  refine mRun.go (q_aload_n dX4_dropLowest_27 rfl rfl) ?_
  refine mRun.go (q_getR dX4_dropLowest_28 fo_X4_9 (hs2 _) rfl) ?_
  refine mRun.go (q_iload_n dX4_dropLowest_31 rfl rfl) ?_
  refine mRun.go (q_iconst dX4_dropLowest_32) ?_
  refine mRun.go (q_isub dX4_dropLowest_33) ?_
  refine mRun.go (q_aload_n dX4_dropLowest_34 rfl rfl) ?_
  refine mRun.go (q_getR dX4_dropLowest_35 fo_X4_9 (hs2 _) rfl) ?_
  refine mRun.go (q_iload_n dX4_dropLowest_38 rfl rfl) ?_
  refine mRun.go (q_aaldE (a := a1) dX4_dropLowest_39 (List.getElem?_set_self hl) (Or.inr rfl) (by simp) (by first | omega | simp) rfl) ?_
  refine mRun.go (q_aastS (rs' := [some a1, some a1, some a2, some a3, some a4, some a5, some a6, some a7]) dX4_dropLowest_40 hl (Or.inr rfl) hn1 hv1.choose_spec (by simp) (by simp) rfl) ?_
  refine mRun.go (q_iinc (ls' := [some (mr s), some (mr a0), some (mi (1 + 1))]) dX4_dropLowest_41 rfl (Nat.le_of_ble_eq_true rfl) rfl) ?_
  refine mRun.go (q_goto (tgt := 18) dX4_dropLowest_44 (by decide)) ?_
  refine mRun.go (q_iload_n dX4_dropLowest_18 rfl rfl) ?_
  refine mRun.go (q_aload_n dX4_dropLowest_19 rfl rfl) ?_
  refine mRun.go (q_getR dX4_dropLowest_20 fo_X4_9 (hs2 _) rfl) ?_
  refine mRun.go (q_alenRE (n := 8) dX4_dropLowest_23 (List.getElem?_set_self hl) (Or.inr rfl) rfl) ?_
  refine mRun.go (q_icmp_ge_f (tgt := 47) dX4_dropLowest_24 (by decide) (by omega) (by omega) (by decide)) ?_
  refine mRun.go (q_aload_n dX4_dropLowest_27 rfl rfl) ?_
  refine mRun.go (q_getR dX4_dropLowest_28 fo_X4_9 (hs2 _) rfl) ?_
  refine mRun.go (q_iload_n dX4_dropLowest_31 rfl rfl) ?_
  refine mRun.go (q_iconst dX4_dropLowest_32) ?_
  refine mRun.go (q_isub dX4_dropLowest_33) ?_
  refine mRun.go (q_aload_n dX4_dropLowest_34 rfl rfl) ?_
  refine mRun.go (q_getR dX4_dropLowest_35 fo_X4_9 (hs2 _) rfl) ?_
  refine mRun.go (q_iload_n dX4_dropLowest_38 rfl rfl) ?_
  refine mRun.go (q_aaldE (a := a2) dX4_dropLowest_39 (List.getElem?_set_self hl) (Or.inr rfl) (by simp) (by first | omega | simp) rfl) ?_
  refine mRun.go (q_aastS (rs' := [some a1, some a2, some a2, some a3, some a4, some a5, some a6, some a7]) dX4_dropLowest_40 hl (Or.inr rfl) hn2 hv2.choose_spec (by simp) (by simp) rfl) ?_
  refine mRun.go (q_iinc (ls' := [some (mr s), some (mr a0), some (mi ((1 + 1) + 1))]) dX4_dropLowest_41 rfl (Nat.le_of_ble_eq_true rfl) rfl) ?_
  refine mRun.go (q_goto (tgt := 18) dX4_dropLowest_44 (by decide)) ?_
  refine mRun.go (q_iload_n dX4_dropLowest_18 rfl rfl) ?_
  refine mRun.go (q_aload_n dX4_dropLowest_19 rfl rfl) ?_
  refine mRun.go (q_getR dX4_dropLowest_20 fo_X4_9 (hs2 _) rfl) ?_
  refine mRun.go (q_alenRE (n := 8) dX4_dropLowest_23 (List.getElem?_set_self hl) (Or.inr rfl) rfl) ?_
  refine mRun.go (q_icmp_ge_f (tgt := 47) dX4_dropLowest_24 (by decide) (by omega) (by omega) (by decide)) ?_
  refine mRun.go (q_aload_n dX4_dropLowest_27 rfl rfl) ?_
  refine mRun.go (q_getR dX4_dropLowest_28 fo_X4_9 (hs2 _) rfl) ?_
  refine mRun.go (q_iload_n dX4_dropLowest_31 rfl rfl) ?_
  refine mRun.go (q_iconst dX4_dropLowest_32) ?_
  refine mRun.go (q_isub dX4_dropLowest_33) ?_
  refine mRun.go (q_aload_n dX4_dropLowest_34 rfl rfl) ?_
  refine mRun.go (q_getR dX4_dropLowest_35 fo_X4_9 (hs2 _) rfl) ?_
  refine mRun.go (q_iload_n dX4_dropLowest_38 rfl rfl) ?_
  refine mRun.go (q_aaldE (a := a3) dX4_dropLowest_39 (List.getElem?_set_self hl) (Or.inr rfl) (by simp) (by first | omega | simp) rfl) ?_
  refine mRun.go (q_aastS (rs' := [some a1, some a2, some a3, some a3, some a4, some a5, some a6, some a7]) dX4_dropLowest_40 hl (Or.inr rfl) hn3 hv3.choose_spec (by simp) (by simp) rfl) ?_
  refine mRun.go (q_iinc (ls' := [some (mr s), some (mr a0), some (mi (((1 + 1) + 1) + 1))]) dX4_dropLowest_41 rfl (Nat.le_of_ble_eq_true rfl) rfl) ?_
  refine mRun.go (q_goto (tgt := 18) dX4_dropLowest_44 (by decide)) ?_
  refine mRun.go (q_iload_n dX4_dropLowest_18 rfl rfl) ?_
  refine mRun.go (q_aload_n dX4_dropLowest_19 rfl rfl) ?_
  refine mRun.go (q_getR dX4_dropLowest_20 fo_X4_9 (hs2 _) rfl) ?_
  refine mRun.go (q_alenRE (n := 8) dX4_dropLowest_23 (List.getElem?_set_self hl) (Or.inr rfl) rfl) ?_
  refine mRun.go (q_icmp_ge_f (tgt := 47) dX4_dropLowest_24 (by decide) (by omega) (by omega) (by decide)) ?_
  refine mRun.go (q_aload_n dX4_dropLowest_27 rfl rfl) ?_
  refine mRun.go (q_getR dX4_dropLowest_28 fo_X4_9 (hs2 _) rfl) ?_
  refine mRun.go (q_iload_n dX4_dropLowest_31 rfl rfl) ?_
  refine mRun.go (q_iconst dX4_dropLowest_32) ?_
  refine mRun.go (q_isub dX4_dropLowest_33) ?_
  refine mRun.go (q_aload_n dX4_dropLowest_34 rfl rfl) ?_
  refine mRun.go (q_getR dX4_dropLowest_35 fo_X4_9 (hs2 _) rfl) ?_
  refine mRun.go (q_iload_n dX4_dropLowest_38 rfl rfl) ?_
  refine mRun.go (q_aaldE (a := a4) dX4_dropLowest_39 (List.getElem?_set_self hl) (Or.inr rfl) (by simp) (by first | omega | simp) rfl) ?_
  refine mRun.go (q_aastS (rs' := [some a1, some a2, some a3, some a4, some a4, some a5, some a6, some a7]) dX4_dropLowest_40 hl (Or.inr rfl) hn4 hv4.choose_spec (by simp) (by simp) rfl) ?_
  refine mRun.go (q_iinc (ls' := [some (mr s), some (mr a0), some (mi ((((1 + 1) + 1) + 1) + 1))]) dX4_dropLowest_41 rfl (Nat.le_of_ble_eq_true rfl) rfl) ?_
  refine mRun.go (q_goto (tgt := 18) dX4_dropLowest_44 (by decide)) ?_
  refine mRun.go (q_iload_n dX4_dropLowest_18 rfl rfl) ?_
  refine mRun.go (q_aload_n dX4_dropLowest_19 rfl rfl) ?_
  refine mRun.go (q_getR dX4_dropLowest_20 fo_X4_9 (hs2 _) rfl) ?_
  refine mRun.go (q_alenRE (n := 8) dX4_dropLowest_23 (List.getElem?_set_self hl) (Or.inr rfl) rfl) ?_
  refine mRun.go (q_icmp_ge_f (tgt := 47) dX4_dropLowest_24 (by decide) (by omega) (by omega) (by decide)) ?_
  refine mRun.go (q_aload_n dX4_dropLowest_27 rfl rfl) ?_
  refine mRun.go (q_getR dX4_dropLowest_28 fo_X4_9 (hs2 _) rfl) ?_
  refine mRun.go (q_iload_n dX4_dropLowest_31 rfl rfl) ?_
  refine mRun.go (q_iconst dX4_dropLowest_32) ?_
  refine mRun.go (q_isub dX4_dropLowest_33) ?_
  refine mRun.go (q_aload_n dX4_dropLowest_34 rfl rfl) ?_
  refine mRun.go (q_getR dX4_dropLowest_35 fo_X4_9 (hs2 _) rfl) ?_
  refine mRun.go (q_iload_n dX4_dropLowest_38 rfl rfl) ?_
  refine mRun.go (q_aaldE (a := a5) dX4_dropLowest_39 (List.getElem?_set_self hl) (Or.inr rfl) (by simp) (by first | omega | simp) rfl) ?_
  refine mRun.go (q_aastS (rs' := [some a1, some a2, some a3, some a4, some a5, some a5, some a6, some a7]) dX4_dropLowest_40 hl (Or.inr rfl) hn5 hv5.choose_spec (by simp) (by simp) rfl) ?_
  refine mRun.go (q_iinc (ls' := [some (mr s), some (mr a0), some (mi (((((1 + 1) + 1) + 1) + 1) + 1))]) dX4_dropLowest_41 rfl (Nat.le_of_ble_eq_true rfl) rfl) ?_
  refine mRun.go (q_goto (tgt := 18) dX4_dropLowest_44 (by decide)) ?_
  refine mRun.go (q_iload_n dX4_dropLowest_18 rfl rfl) ?_
  refine mRun.go (q_aload_n dX4_dropLowest_19 rfl rfl) ?_
  refine mRun.go (q_getR dX4_dropLowest_20 fo_X4_9 (hs2 _) rfl) ?_
  refine mRun.go (q_alenRE (n := 8) dX4_dropLowest_23 (List.getElem?_set_self hl) (Or.inr rfl) rfl) ?_
  refine mRun.go (q_icmp_ge_f (tgt := 47) dX4_dropLowest_24 (by decide) (by omega) (by omega) (by decide)) ?_
  refine mRun.go (q_aload_n dX4_dropLowest_27 rfl rfl) ?_
  refine mRun.go (q_getR dX4_dropLowest_28 fo_X4_9 (hs2 _) rfl) ?_
  refine mRun.go (q_iload_n dX4_dropLowest_31 rfl rfl) ?_
  refine mRun.go (q_iconst dX4_dropLowest_32) ?_
  refine mRun.go (q_isub dX4_dropLowest_33) ?_
  refine mRun.go (q_aload_n dX4_dropLowest_34 rfl rfl) ?_
  refine mRun.go (q_getR dX4_dropLowest_35 fo_X4_9 (hs2 _) rfl) ?_
  refine mRun.go (q_iload_n dX4_dropLowest_38 rfl rfl) ?_
  refine mRun.go (q_aaldE (a := a6) dX4_dropLowest_39 (List.getElem?_set_self hl) (Or.inr rfl) (by simp) (by first | omega | simp) rfl) ?_
  refine mRun.go (q_aastS (rs' := [some a1, some a2, some a3, some a4, some a5, some a6, some a6, some a7]) dX4_dropLowest_40 hl (Or.inr rfl) hn6 hv6.choose_spec (by simp) (by simp) rfl) ?_
  refine mRun.go (q_iinc (ls' := [some (mr s), some (mr a0), some (mi ((((((1 + 1) + 1) + 1) + 1) + 1) + 1))]) dX4_dropLowest_41 rfl (Nat.le_of_ble_eq_true rfl) rfl) ?_
  refine mRun.go (q_goto (tgt := 18) dX4_dropLowest_44 (by decide)) ?_
  refine mRun.go (q_iload_n dX4_dropLowest_18 rfl rfl) ?_
  refine mRun.go (q_aload_n dX4_dropLowest_19 rfl rfl) ?_
  refine mRun.go (q_getR dX4_dropLowest_20 fo_X4_9 (hs2 _) rfl) ?_
  refine mRun.go (q_alenRE (n := 8) dX4_dropLowest_23 (List.getElem?_set_self hl) (Or.inr rfl) rfl) ?_
  refine mRun.go (q_icmp_ge_f (tgt := 47) dX4_dropLowest_24 (by decide) (by omega) (by omega) (by decide)) ?_
  refine mRun.go (q_aload_n dX4_dropLowest_27 rfl rfl) ?_
  refine mRun.go (q_getR dX4_dropLowest_28 fo_X4_9 (hs2 _) rfl) ?_
  refine mRun.go (q_iload_n dX4_dropLowest_31 rfl rfl) ?_
  refine mRun.go (q_iconst dX4_dropLowest_32) ?_
  refine mRun.go (q_isub dX4_dropLowest_33) ?_
  refine mRun.go (q_aload_n dX4_dropLowest_34 rfl rfl) ?_
  refine mRun.go (q_getR dX4_dropLowest_35 fo_X4_9 (hs2 _) rfl) ?_
  refine mRun.go (q_iload_n dX4_dropLowest_38 rfl rfl) ?_
  refine mRun.go (q_aaldE (a := a7) dX4_dropLowest_39 (List.getElem?_set_self hl) (Or.inr rfl) (by simp) (by first | omega | simp) rfl) ?_
  refine mRun.go (q_aastS (rs' := [some a1, some a2, some a3, some a4, some a5, some a6, some a7, some a7]) dX4_dropLowest_40 hl (Or.inr rfl) hn7 hv7.choose_spec (by simp) (by simp) rfl) ?_
  refine mRun.go (q_iinc (ls' := [some (mr s), some (mr a0), some (mi (((((((1 + 1) + 1) + 1) + 1) + 1) + 1) + 1))]) dX4_dropLowest_41 rfl (Nat.le_of_ble_eq_true rfl) rfl) ?_
  refine mRun.go (q_goto (tgt := 18) dX4_dropLowest_44 (by decide)) ?_
  refine mRun.go (q_iload_n dX4_dropLowest_18 rfl rfl) ?_
  refine mRun.go (q_aload_n dX4_dropLowest_19 rfl rfl) ?_
  refine mRun.go (q_getR dX4_dropLowest_20 fo_X4_9 (hs2 _) rfl) ?_
  refine mRun.go (q_alenRE (n := 8) dX4_dropLowest_23 (List.getElem?_set_self hl) (Or.inr rfl) rfl) ?_
  refine mRun.go (q_icmp_ge_t (tgt := 47) dX4_dropLowest_24 (by decide) (by omega) (by omega) (by decide)) ?_
  refine mRun.go (q_aload_n dX4_dropLowest_47 rfl rfl) ?_
  refine mRun.go (q_getR dX4_dropLowest_48 fo_X4_9 (hs2 _) rfl) ?_
  refine mRun.go (q_aload_n dX4_dropLowest_51 rfl rfl) ?_
  refine mRun.go (q_getR dX4_dropLowest_52 fo_X4_9 (hs2 _) rfl) ?_
  refine mRun.go (q_alenRE (n := 8) dX4_dropLowest_55 (List.getElem?_set_self hl) (Or.inr rfl) rfl) ?_
  refine mRun.go (q_iconst dX4_dropLowest_56) ?_
  refine mRun.go (q_isub dX4_dropLowest_57) ?_
  refine mRun.go (q_aload_n dX4_dropLowest_58 rfl rfl) ?_
  refine mRun.go (q_aastS (rs' := [some a1, some a2, some a3, some a4, some a5, some a6, some a7, some a0]) dX4_dropLowest_59 hl (Or.inr rfl) hn0 hv0.choose_spec (by simp) (by simp) rfl) ?_
  refine mRun.go (q_aload_n dX4_dropLowest_60 rfl rfl) ?_
  refine mRun.go (q_dup dX4_dropLowest_61 rfl) ?_
  refine mRun.go (q_getI dX4_dropLowest_62 fo_X4_16 (hs2 _) rfl) ?_
  refine mRun.go (q_iconst dX4_dropLowest_65) ?_
  refine mRun.go (q_isub dX4_dropLowest_66) ?_
  refine mRun.go (q_putI dX4_dropLowest_67 fo_X4_16 fp_4_1 (hs2 _) rfl) ?_
  refine r_ret dX4_dropLowest_70 rfl ?_
  exact ⟨rfl, rfl⟩

theorem k_drop {σ : List mC} {I : mI} {s a0 a1 a2 a3 a4 a5 a6 a7 : Nat} (hs : IsShelf σ s [some a0, some a1, some a2, some a3, some a4, some a5, some a6, some a7]) (hI : Nrm I) (hv0 : ∃ fs, σ[a0]? = some (.inl (mek 2, fs))) (hv1 : ∃ fs, σ[a1]? = some (.inl (mek 2, fs))) (hv2 : ∃ fs, σ[a2]? = some (.inl (mek 2, fs))) (hv3 : ∃ fs, σ[a3]? = some (.inl (mek 2, fs))) (hv4 : ∃ fs, σ[a4]? = some (.inl (mek 2, fs))) (hv5 : ∃ fs, σ[a5]? = some (.inl (mek 2, fs))) (hv6 : ∃ fs, σ[a6]? = some (.inl (mek 2, fs))) (hv7 : ∃ fs, σ[a7]? = some (.inl (mek 2, fs))) (hn0 : a0 ≠ s + 1) (hn1 : a1 ≠ s + 1) (hn2 : a2 ≠ s + 1) (hn3 : a3 ≠ s + 1) (hn4 : a4 ≠ s + 1) (hn5 : a5 ≠ s + 1) (hn6 : a6 ≠ s + 1) (hn7 : a7 ≠ s + 1) : mCt mX4_dropLowest [mr s] (σ, I) none (σ.set (s + 1) (.inr (.inr (2, [some a1, some a2, some a3, some a4, some a5, some a6, some a7, some a0]))), mup I s 1 (I s 1 - 1)) := by
  have hl := (List.getElem?_eq_some_iff.mp hs.2).1
  have h := k_drop0 (I := I) (fun c => by rw [List.getElem?_set_ne (by omega)]; exact hs.1) hl hI hv0 hv1 hv2 hv3 hv4 hv5 hv6 hv7 hn0 hn1 hn2 hn3 hn4 hn5 hn6 hn7
  rw [set_same hs.2] at h
  exact h

set_option maxRecDepth 100000 in
theorem k_take0 {σ : List mC} {I : mI} {s : Nat} {sd : List (Option Nat)} {g : Nat} (hs : IsShelf σ s sd) (hI : Nrm I) (hz : I s 1 = 0) : mCt mX4_takeInto [mr s, mr g] (σ, I) (some (mi 0)) (σ, I) := by
  refine mCt.eq ?_
  refine mMt.of pl_4 (Nat.le_of_ble_eq_true rfl) ?_
  show mRun mZt mX4_takeInto 0 [some (mr s), some (mr g)] [] (σ, I) _
  refine mRun.go (q_aload_n dX4_takeInto_0 rfl rfl) ?_
  refine mRun.go (q_getI dX4_takeInto_1 fo_X4_16 hs.1 rfl) ?_
  refine mRun.go (q_if_le_t (tgt := 19) dX4_takeInto_4 (by decide) (hI _ _) (by omega)) ?_
  refine mRun.go (q_iconst dX4_takeInto_19) ?_
  refine r_zret dX4_takeInto_20 rfl (by simp) ?_
  exact ⟨rfl, rfl⟩

set_option maxRecDepth 100000 in
theorem k_take1 {σ : List mC} {I : mI} {s : Nat} {sd : List (Option Nat)} {g a : Nat} (hs : IsShelf σ s sd) (hI : Nrm I) (hn : sd.length < 100) (hz : 0 < I s 1 ∧ I s 1 ≤ (sd.length : Int)) (hae : sd.getD (I s 1 - 1).toNat none = some a) (hg : IsForest σ g) (ha : IsForest σ a) (hd : g + 8 ≤ a ∨ a + 8 ≤ g) : mCt mX4_takeInto [mr s, mr g] (σ, I) (some (mi 1)) (σ, fcp (mup I s 1 (I s 1 - 1)) g a) := by
  refine mCt.eq ?_
  refine mMt.of pl_4 (Nat.le_of_ble_eq_true rfl) ?_
  show mRun mZt mX4_takeInto 0 [some (mr s), some (mr g)] [] (σ, I) _
  refine mRun.go (q_aload_n dX4_takeInto_0 rfl rfl) ?_
  refine mRun.go (q_getI dX4_takeInto_1 fo_X4_16 hs.1 rfl) ?_
  refine mRun.go (q_if_le_f (tgt := 19) dX4_takeInto_4 (by decide) (hI _ _) (by omega)) ?_
  refine mRun.go (q_aload_n dX4_takeInto_7 rfl rfl) ?_
  refine mRun.go (q_getI dX4_takeInto_8 fo_X4_16 hs.1 rfl) ?_
  refine mRun.go (q_aload_n dX4_takeInto_11 rfl rfl) ?_
  refine mRun.go (q_getR dX4_takeInto_12 fo_X4_9 hs.1 rfl) ?_
  refine mRun.go (q_alenRE (n := sd.length) dX4_takeInto_15 hs.2 (Or.inr rfl) rfl) ?_
  refine mRun.go (q_icmp_le_t (tgt := 21) dX4_takeInto_16 (by decide) (hI _ _) (by omega) (by omega)) ?_
  refine mRun.go (q_aload_n dX4_takeInto_21 rfl rfl) ?_
  refine mRun.go (q_dup dX4_takeInto_22 rfl) ?_
  refine mRun.go (q_getI dX4_takeInto_23 fo_X4_16 hs.1 rfl) ?_
  refine mRun.go (q_iconst dX4_takeInto_26) ?_
  refine mRun.go (q_isub dX4_takeInto_27) ?_
  refine mRun.go (q_putI dX4_takeInto_28 fo_X4_16 fp_4_1 hs.1 rfl) ?_
  refine mRun.go (q_aload_n dX4_takeInto_31 rfl rfl) ?_
  refine mRun.go (q_aload_n dX4_takeInto_32 rfl rfl) ?_
  refine mRun.go (q_getR dX4_takeInto_33 fo_X4_9 hs.1 rfl) ?_
  refine mRun.go (q_aload_n dX4_takeInto_36 rfl rfl) ?_
  refine mRun.go (q_getE (x := (I s 1) - 1) dX4_takeInto_37 fo_X4_16 hs.1 rfl (by simp [mup])) ?_
  refine mRun.go (q_aaldE (a := a) dX4_takeInto_40 hs.2 (Or.inr rfl) (by omega) (by first | omega | simp) hae) ?_
  refine mRun.go (q_callVv (r := g) [mr a] [] dX4_takeInto_41 co_X4_27 ⟨Nat.le_of_ble_eq_true rfl, Nat.le_of_ble_eq_true rfl⟩ gw_386 gw_387 rfl hg.1 rfl rfl rfl (Nat.le_of_ble_eq_true rfl) (k_fcopy hg ha (nrm_mup hI (by omega)) hd)) ?_
  refine mRun.go (q_iconst dX4_takeInto_44) ?_
  refine r_zret dX4_takeInto_45 rfl (by simp) ?_
  exact ⟨rfl, rfl⟩

set_option maxRecDepth 100000 in
theorem k_addN {σ : List mC} {I : mI} {s : Nat} {sd : List (Option Nat)} {g a : Nat} (hs : IsShelf σ s sd) (hI : Nrm I) (hn : sd.length < 100) (hz : 0 ≤ I s 1 ∧ I s 1 < (sd.length : Int)) (hae : sd.getD (I s 1).toNat none = some a) (hg : IsForest σ g) (ha : IsForest σ a) (hd : a + 8 ≤ g ∨ g + 8 ≤ a) (hds : s < a ∨ a + 7 < s) : mCt mX4_add [mr s, mr g] (σ, I) none (σ, mup (fcp I a g) s 1 (I s 1 + 1)) := by
  refine mCt.eq ?_
  refine mMt.of pl_4 (Nat.le_of_ble_eq_true rfl) ?_
  show mRun mZt mX4_add 0 [some (mr s), some (mr g)] [] (σ, I) _
  refine mRun.go (q_aload_n dX4_add_0 rfl rfl) ?_
  have hfl := k_isFull hs hI hn
  rw [if_pos hz.2] at hfl
  refine mRun.go (q_callVi (r := s) [] [] dX4_add_1 co_X4_20 ⟨Nat.le_of_ble_eq_true rfl, Nat.le_of_ble_eq_true rfl⟩ gw_551 gw_552 rfl hs.1 rfl rfl rfl (Nat.le_of_ble_eq_true rfl) hfl) ?_
  refine mRun.go (q_if_eq_t (tgt := 11) dX4_add_4 (by decide) (by omega) rfl) ?_
  refine mRun.go (q_aload_n dX4_add_11 rfl rfl) ?_
  refine mRun.go (q_getI dX4_add_12 fo_X4_16 hs.1 rfl) ?_
  refine mRun.go (q_if_lt_f (tgt := 53) dX4_add_15 (by decide) (hI _ _) (by omega)) ?_
  refine mRun.go (q_aload_n dX4_add_18 rfl rfl) ?_
  refine mRun.go (q_getI dX4_add_19 fo_X4_16 hs.1 rfl) ?_
  refine mRun.go (q_aload_n dX4_add_22 rfl rfl) ?_
  refine mRun.go (q_getR dX4_add_23 fo_X4_9 hs.1 rfl) ?_
  refine mRun.go (q_alenRE (n := sd.length) dX4_add_26 hs.2 (Or.inr rfl) rfl) ?_
  refine mRun.go (q_icmp_ge_f (tgt := 53) dX4_add_27 (by decide) (hI _ _) (by omega) (by omega)) ?_
  refine mRun.go (q_aload_n dX4_add_30 rfl rfl) ?_
  refine mRun.go (q_getR dX4_add_31 fo_X4_9 hs.1 rfl) ?_
  refine mRun.go (q_aload_n dX4_add_34 rfl rfl) ?_
  refine mRun.go (q_getI dX4_add_35 fo_X4_16 hs.1 rfl) ?_
  refine mRun.go (q_aaldE (a := a) dX4_add_38 hs.2 (Or.inr rfl) (by omega) (by first | omega | simp) hae) ?_
  refine mRun.go (q_aload_n dX4_add_39 rfl rfl) ?_
  refine mRun.go (q_callVv (r := a) [mr g] [] dX4_add_40 co_X4_27 ⟨Nat.le_of_ble_eq_true rfl, Nat.le_of_ble_eq_true rfl⟩ gw_386 gw_387 rfl ha.1 rfl rfl rfl (Nat.le_of_ble_eq_true rfl) (k_fcopy ha hg hI hd)) ?_
  refine mRun.go (q_aload_n dX4_add_43 rfl rfl) ?_
  refine mRun.go (q_dup dX4_add_44 rfl) ?_
  refine mRun.go (q_getE (x := I s 1) dX4_add_45 fo_X4_16 hs.1 rfl (by rw [fcp_fr hds])) ?_
  refine mRun.go (q_iconst dX4_add_48) ?_
  refine mRun.go (q_iadd dX4_add_49) ?_
  refine mRun.go (q_putI dX4_add_50 fo_X4_16 fp_4_1 hs.1 rfl) ?_
  refine r_ret dX4_add_53 rfl ?_
  exact ⟨rfl, rfl⟩

theorem row_set {σ : List mC} {q r n : Nat} {c : mC} (h : IsRow σ r n) (h1 : q ≠ r) (h2 : q ≠ r + 1) : IsRow (σ.set q c) r n := ⟨by rw [List.getElem?_set_ne h1]; exact h.1, by rw [List.getElem?_set_ne h2]; exact h.2⟩
theorem forest_set {σ : List mC} {q f : Nat} {c : mC} (h : IsForest σ f) (hq : q < f ∨ f + 7 < q) : IsForest (σ.set q c) f :=
  ⟨by rw [List.getElem?_set_ne (by omega)]; exact h.1, row_set h.2.1 (by omega) (by omega), by rw [List.getElem?_set_ne (by omega)]; exact h.2.2.1, fun t ht => by
    show (σ.set q c)[f + 4 + t]? = _
    rw [List.getElem?_set_ne (by omega)]
    exact h.2.2.2 t ht⟩

set_option maxRecDepth 100000 in
theorem k_addF {σ : List mC} {I : mI} {s g a0 a1 a2 a3 a4 a5 a6 a7 : Nat} (hs : IsShelf σ s [some a0, some a1, some a2, some a3, some a4, some a5, some a6, some a7]) (hI : Nrm I) (hv0 : ∃ fs, σ[a0]? = some (.inl (mek 2, fs))) (hv1 : ∃ fs, σ[a1]? = some (.inl (mek 2, fs))) (hv2 : ∃ fs, σ[a2]? = some (.inl (mek 2, fs))) (hv3 : ∃ fs, σ[a3]? = some (.inl (mek 2, fs))) (hv4 : ∃ fs, σ[a4]? = some (.inl (mek 2, fs))) (hv5 : ∃ fs, σ[a5]? = some (.inl (mek 2, fs))) (hv6 : ∃ fs, σ[a6]? = some (.inl (mek 2, fs))) (hv7 : ∃ fs, σ[a7]? = some (.inl (mek 2, fs))) (hn0 : a0 ≠ s + 1) (hn1 : a1 ≠ s + 1) (hn2 : a2 ≠ s + 1) (hn3 : a3 ≠ s + 1) (hn4 : a4 ≠ s + 1) (hn5 : a5 ≠ s + 1) (hn6 : a6 ≠ s + 1) (hn7 : a7 ≠ s + 1) (hz : I s 1 = 8) (hg : IsForest σ g) (ha : IsForest σ a0) (hd : a0 + 8 ≤ g ∨ g + 8 ≤ a0) (hds : s < a0 ∨ a0 + 7 < s) (hds1 : s + 1 < a0 ∨ a0 + 7 < s + 1) (hgs : s + 1 < g ∨ g + 7 < s + 1) : mCt mX4_add [mr s, mr g] (σ, I) none (σ.set (s + 1) (.inr (.inr (2, [some a1, some a2, some a3, some a4, some a5, some a6, some a7, some a0]))), mup (fcp (mup I s 1 (I s 1 - 1)) a0 g) s 1 (I s 1 - 1 + 1)) := by
  refine mCt.eq ?_
  refine mMt.of pl_4 (Nat.le_of_ble_eq_true rfl) ?_
  show mRun mZt mX4_add 0 [some (mr s), some (mr g)] [] (σ, I) _
  refine mRun.go (q_aload_n dX4_add_0 rfl rfl) ?_
  have hfl := k_isFull hs hI (by simp)
  rw [if_neg (by rw [hz]; simp)] at hfl
  refine mRun.go (q_callVi (r := s) [] [] dX4_add_1 co_X4_20 ⟨Nat.le_of_ble_eq_true rfl, Nat.le_of_ble_eq_true rfl⟩ gw_551 gw_552 rfl hs.1 rfl rfl rfl (Nat.le_of_ble_eq_true rfl) hfl) ?_
  refine mRun.go (q_if_eq_f (tgt := 11) dX4_add_4 (by decide) (by omega) (by decide)) ?_
  refine mRun.go (q_aload_n dX4_add_7 rfl rfl) ?_
  have hs1 := (List.getElem?_eq_some_iff.mp hs.2).1
  have hg2 := forest_set (q := s + 1) (c := .inr (.inr (2, [some a1, some a2, some a3, some a4, some a5, some a6, some a7, some a0]))) hg (by omega)
  have ha2 := forest_set (q := s + 1) (c := .inr (.inr (2, [some a1, some a2, some a3, some a4, some a5, some a6, some a7, some a0]))) ha (by omega)
  refine mRun.go (q_callVv (r := s) [] [] dX4_add_8 co_X4_24 ⟨Nat.le_of_ble_eq_true rfl, Nat.le_of_ble_eq_true rfl⟩ gw_556 gs_11 rfl hs.1 rfl rfl rfl (Nat.le_of_ble_eq_true rfl) (k_drop hs hI hv0 hv1 hv2 hv3 hv4 hv5 hv6 hv7 hn0 hn1 hn2 hn3 hn4 hn5 hn6 hn7)) ?_
  refine mRun.go (q_aload_n dX4_add_11 rfl rfl) ?_
  refine mRun.go (q_getE (x := I s 1 - 1) dX4_add_12 fo_X4_16 (by rw [List.getElem?_set_ne (by omega)]; exact hs.1) rfl (by simp [mup])) ?_
  refine mRun.go (q_if_lt_f (tgt := 53) dX4_add_15 (by decide) (by omega) (by omega)) ?_
  refine mRun.go (q_aload_n dX4_add_18 rfl rfl) ?_
  refine mRun.go (q_getE (x := I s 1 - 1) dX4_add_19 fo_X4_16 (by rw [List.getElem?_set_ne (by omega)]; exact hs.1) rfl (by simp [mup])) ?_
  refine mRun.go (q_aload_n dX4_add_22 rfl rfl) ?_
  refine mRun.go (q_getR dX4_add_23 fo_X4_9 (by rw [List.getElem?_set_ne (by omega)]; exact hs.1) rfl) ?_
  refine mRun.go (q_alenRE (n := 8) dX4_add_26 (List.getElem?_set_self hs1) (Or.inr rfl) rfl) ?_
  refine mRun.go (q_icmp_ge_f (tgt := 53) dX4_add_27 (by decide) (by omega) (by omega) (by omega)) ?_
  refine mRun.go (q_aload_n dX4_add_30 rfl rfl) ?_
  refine mRun.go (q_getR dX4_add_31 fo_X4_9 (by rw [List.getElem?_set_ne (by omega)]; exact hs.1) rfl) ?_
  refine mRun.go (q_aload_n dX4_add_34 rfl rfl) ?_
  refine mRun.go (q_getE (x := I s 1 - 1) dX4_add_35 fo_X4_16 (by rw [List.getElem?_set_ne (by omega)]; exact hs.1) rfl (by simp [mup])) ?_
  refine mRun.go (q_aaldE (a := a0) dX4_add_38 (List.getElem?_set_self hs1) (Or.inr rfl) ⟨by omega, by simp; omega⟩ (by first | omega | simp) (by rw [hz]; rfl)) ?_
  refine mRun.go (q_aload_n dX4_add_39 rfl rfl) ?_
  refine mRun.go (q_callVv (r := a0) [mr g] [] dX4_add_40 co_X4_27 ⟨Nat.le_of_ble_eq_true rfl, Nat.le_of_ble_eq_true rfl⟩ gw_386 gw_387 rfl ha2.1 rfl rfl rfl (Nat.le_of_ble_eq_true rfl) (k_fcopy ha2 hg2 (nrm_mup hI (by omega)) hd)) ?_
  refine mRun.go (q_aload_n dX4_add_43 rfl rfl) ?_
  refine mRun.go (q_dup dX4_add_44 rfl) ?_
  refine mRun.go (q_getE (x := I s 1 - 1) dX4_add_45 fo_X4_16 (by rw [List.getElem?_set_ne (by omega)]; exact hs.1) rfl (by rw [fcp_fr hds]; simp [mup])) ?_
  refine mRun.go (q_iconst dX4_add_48) ?_
  refine mRun.go (q_iadd dX4_add_49) ?_
  refine mRun.go (q_putI dX4_add_50 fo_X4_16 fp_4_1 (by rw [List.getElem?_set_ne (by omega)]; exact hs.1) rfl) ?_
  refine r_ret dX4_add_53 rfl ?_
  exact ⟨rfl, rfl⟩
