/-! ===== DrumMaps: what is put on the shelves and taken from them ===== -/
theorem text_set {σ : List mC} {q t : Nat} {c : mC} (h : IsText σ t) (h1 : q ≠ t) (h2 : q ≠ t + 1) : IsText (σ.set q c) t := ⟨by rw [List.getElem?_set_ne h1]; exact h.1, by rw [List.getElem?_set_ne h2]; exact h.2⟩
theorem land_set {σ : List mC} {q l : Nat} {c : mC} (h : IsLand σ l) (hq : q < l ∨ l + 6 < q) : IsLand (σ.set q c) l := ⟨by rw [List.getElem?_set_ne (by omega)]; exact h.1, row_set h.2.1 (by omega) (by omega), row_set h.2.2.1 (by omega) (by omega), row_set h.2.2.2 (by omega) (by omega)⟩
theorem ways_set {σ : List mC} {q w : Nat} {c : mC} (h : IsWays σ w) (hq : q < w ∨ w + 4 < q) : IsWays (σ.set q c) w := ⟨by rw [List.getElem?_set_ne (by omega)]; exact h.1, row_set h.2.1 (by omega) (by omega), row_set h.2.2 (by omega) (by omega)⟩
theorem dm_set {σ : List mC} {c : mC} (h : IsDM σ) : IsDM (σ.set 37 c) := by
  refine ⟨by rw [List.getElem?_set_ne (by decide)]; exact h.1, ⟨text_set (dm_t h) (by decide) (by decide), by rw [List.getElem?_set_ne (by decide)]; exact (dm_r h).2.1, land_set (dm_r h).2.2.1 (by decide), forest_set (dm_r h).2.2.2.1 (by decide), row_set (dm_r h).2.2.2.2 (by decide) (by decide)⟩, land_set (dm_l h) (by decide), forest_set (dm_n h) (by decide), fun i hi => forest_set (dm_u h hi) (by omega), ⟨by rw [List.getElem?_set_ne (by decide)]; exact (dm_k h).1, by rw [List.getElem?_set_ne (by decide)]; exact (dm_k h).2⟩, forest_set (dm_k0 h) (by decide), forest_set (dm_k1 h) (by decide), row_set (dm_hp h) (by decide) (by decide), row_set (dm_ht h) (by decide) (by decide), forest_set (dm_s h) (by decide), ?_, ?_, ways_set (dm_y h) (by decide), ways_set (dm_z h) (by decide)⟩
  · show (σ.set 37 c)[132]? = _
    rw [List.getElem?_set_ne (by decide)]
    exact dm_w h
  · show (σ.set 37 c)[133]? = _
    rw [List.getElem?_set_ne (by decide)]
    exact dm_o h
theorem msz_set {σ : List mC} {r : Nat} {c d : mC} (h : σ[r]? = some d) (e : msz c = msz d) : (σ.set r c).map msz = σ.map msz := by
  apply List.ext_getElem?
  intro i
  rw [List.getElem?_map, List.getElem?_map]
  by_cases hi : i = r
  · subst hi
    rw [List.getElem?_set_self (List.getElem?_eq_some_iff.mp h).1, h]
    simp [e]
  · rw [List.getElem?_set_ne (Ne.symm hi)]
/-- what stays but the shelf of undone ones -/
theorem rc_u {I K : mI} {S S' : Sx} (h : RC I S) (hL : LdOk (sL S)) (h2 : (sK S).1 ≤ 2) (hf : ∀ r, (r < 36 ∨ 101 < r) → K r = I r) (e1 : S'.1 = S.1) (e2 : sL S' = sL S) (e3 : sF S' = sF S) (e4 : sK S' = sK S) (e5 : sH S' = sH S) (hu : K 36 1 = ((sU S').1 : Int)) : RC K S' := by
  obtain ⟨a1, a2, a3, a4, a5, a6, a7, a8⟩ := h
  refine ⟨?_, ?_, ?_, ?_, ?_, ?_, ?_, hu⟩
  · rw [show sC S' = sC S by show S'.1.1 = S.1.1; rw [e1], show sLn S' = sLn S by show S'.1.2 = S.1.2; rw [e1]]
    exact a1.fr (hf 1 (by omega)) (hf 2 (by omega))
  · rw [e2]; exact a2.fr (fun r p q => hf r (by omega))
  · rw [e2, e3]; exact a3.fr hL (fun r p q => hf r (by omega)) (hf 23 (by omega))
  · rw [e4, hf 102 (by omega)]; exact a4
  · rw [e4, e2]; exact fun k hk => (a5 k hk).fr hL (fun r p q => hf r (by omega)) (hf 23 (by omega))
  · rw [e5, hf 0 (by omega)]; exact a6
  · rw [e5]; exact fun k hk => by rw [hf 121 (by omega), hf 123 (by omega)]; exact a7 k hk
/-- the forest that is now, changed -/
theorem cs_now {σ : List mC} {I K : mI} {S : Sx} {F : Fs} (h : CS σ I S) (hL : LdOk (sL S)) (h8 : (sU S).1 ≤ 8) (hf : ∀ r, (r < 28 ∨ 35 < r) → K r = I r) (hK : Nrm K) (hF : FRC K 28 (sL S) F) : CS σ K (putN S F) := by
  obtain ⟨b1, b2, ⟨q, b3, b4, b5, b6⟩, a1, a2, a3, a4, a5, a6, a7, a8⟩ := h
  refine ⟨hK, b2, ⟨q, b3, b4, b5, fun k hk => (b6 k hk).fr hL (fun r p z => hf r (by omega)) (hf 23 (by omega))⟩, a1.fr (hf 1 (by omega)) (hf 2 (by omega)), a2.fr (fun r p q => hf r (by omega)), hF, ?_, ?_, ?_, ?_, ?_⟩
  · show K 102 1 = _
    rw [hf 102 (by omega)]; exact a4
  · exact fun k hk => (a5 k hk).fr hL (fun r p q => hf r (by omega)) (hf 23 (by omega))
  · show K 0 8 = _
    rw [hf 0 (by omega)]; exact a6
  · exact fun k hk => by rw [hf 121 (by omega), hf 123 (by omega)]; exact a7 k hk
  · show K 36 1 = _
    rw [hf 36 (by omega)]; exact a8
theorem nat8 {P : Nat → Prop} (h0 : P 0) (h1 : P 1) (h2 : P 2) (h3 : P 3) (h4 : P 4) (h5 : P 5) (h6 : P 6) (h7 : P 7) : ∀ k, k < 8 → P k := by
  intro k hk
  rcases (show k = 0 ∨ k = 1 ∨ k = 2 ∨ k = 3 ∨ k = 4 ∨ k = 5 ∨ k = 6 ∨ k = 7 by omega) with z | z | z | z | z | z | z | z <;> subst z <;> assumption
theorem sd_at {q : Nat → Nat} : ∀ k, k < 8 → ([some (38 + 8 * q 0), some (38 + 8 * q 1), some (38 + 8 * q 2), some (38 + 8 * q 3), some (38 + 8 * q 4), some (38 + 8 * q 5), some (38 + 8 * q 6), some (38 + 8 * q 7)] : List (Option Nat)).getD k none = some (38 + 8 * q k) := nat8 rfl rfl rfl rfl rfl rfl rfl rfl
theorem k_push {σ : List mC} {I : mI} {S : Sx} {B : Int} (hC : CS σ I S) (hS : SxOk B S) : mMt mX4_add [mr 36, mr 28] (σ, I) (fun v h => v = none ∧ ∃ (σ' : List mC) (K : mI), h = (σ', K) ∧ (∀ r, (r < 36 ∨ 101 < r) → K r = I r) ∧ (∀ k, k ≠ 37 → σ'[k]? = σ[k]?) ∧ σ'.map msz = σ.map msz ∧ CS σ' K (putU S (sF S))) := by
  obtain ⟨hI, hD, ⟨q, hq1, hq2, hU, hq4⟩, hR⟩ := hC
  have hL := hS.1
  have h8 := hS.2.2.1
  have hu : I 36 1 = ((sU S).1 : Int) := hR.2.2.2.2.2.2.2
  by_cases hn : (sU S).1 = 8
  · have e8 : I 36 1 = 8 := by rw [hu, hn]; rfl
    have hq0 := hq1 0 (by decide)
    have hv : ∀ k, k < 8 → ∃ fs, σ[38 + 8 * q k]? = some (.inl (mek 2, fs)) := fun k hk => ⟨_, (dm_u hD (hq1 k hk)).1⟩
    have hk := k_addF hU hI (hv 0 (by decide)) (hv 1 (by decide)) (hv 2 (by decide)) (hv 3 (by decide)) (hv 4 (by decide)) (hv 5 (by decide)) (hv 6 (by decide)) (hv 7 (by decide)) (by omega) (by omega) (by omega) (by omega) (by omega) (by omega) (by omega) (by omega) e8 (dm_n hD) (dm_u hD hq0) (by omega) (by omega) (by omega) (by omega)
    have hfr : ∀ r, r ≠ 36 → (r < 38 + 8 * q 0 ∨ 38 + 8 * q 0 + 7 < r) → mup (fcp (mup I 36 1 (I 36 1 - 1)) (38 + 8 * q 0) 28) 36 1 (I 36 1 - 1 + 1) r = I r := fun r a b => by rw [mup_nf a, fcp_fr b, mup_nf a]
    refine ⟨none, _, hk, rfl, _, _, rfl, fun r a => hfr r (by omega) (by omega), fun k a => List.getElem?_set_ne (Ne.symm a), msz_set hU.2 rfl, nrm_mup (nrm_fcp (nrm_mup hI (by omega))) (by omega), dm_set hD, ?_, ?_⟩
    · refine ⟨fun k => if k = 7 then q 0 else q (k + 1), ?_, ?_, ⟨by rw [List.getElem?_set_ne (by decide)]; exact hU.1, List.getElem?_set_self (List.getElem?_eq_some_iff.mp hU.2).1⟩, ?_⟩
      · intro k hk
        show (if k = 7 then q 0 else q (k + 1)) < 8
        split
        · exact hq0
        · exact hq1 (k + 1) (by omega)
      · intro j k hj hk h
        have h : (if j = 7 then q 0 else q (j + 1)) = (if k = 7 then q 0 else q (k + 1)) := h
        by_cases z1 : j = 7 <;> by_cases z2 : k = 7
        · omega
        · rw [if_pos z1, if_neg z2] at h
          have := hq2 0 (k + 1) (by decide) (by omega) h
          omega
        · rw [if_neg z1, if_pos z2] at h
          have := hq2 (j + 1) 0 (by omega) (by decide) h
          omega
        · rw [if_neg z1, if_neg z2] at h
          have := hq2 (j + 1) (k + 1) (by omega) (by omega) h
          omega
      · intro k hk
        have e : pushF (sU S) (sF S) = (8, fun k => if k = 7 then sF S else (sU S).2 (k + 1)) := by unfold pushF; rw [if_pos hn]
        show FRC _ (38 + 8 * (if k = 7 then q 0 else q (k + 1))) (sL S) ((pushF (sU S) (sF S)).2 k)
        have hk : k < (pushF (sU S) (sF S)).1 := hk
        rw [e] at hk ⊢
        have hk : k < 8 := hk
        show FRC _ (38 + 8 * (if k = 7 then q 0 else q (k + 1))) (sL S) (if k = 7 then sF S else (sU S).2 (k + 1))
        by_cases z : k = 7
        · rw [if_pos z, if_pos z]
          have h1 : FRC (mup I 36 1 (I 36 1 - 1)) 28 (sL S) (sF S) := hR.2.2.1.fr hL (fun r a b => mup_nf (by omega)) (mup_nf (by decide))
          exact (frc_cp h1 hL (by omega) (by decide)).fr hL (fun r a b => mup_nf (by omega)) (mup_nf (by decide))
        · rw [if_neg z, if_neg z]
          have hne : q (k + 1) ≠ q 0 := fun h => by have := hq2 (k + 1) 0 (by omega) (by decide) h; omega
          have := hq1 (k + 1) (by omega)
          exact (hq4 (k + 1) (by omega)).fr hL (fun r a b => hfr r (by omega) (by omega)) (hfr 23 (by decide) (by omega))
    · refine rc_u hR hL hS.2.2.2.2.1 (fun r a => hfr r (by omega) (by omega)) rfl rfl rfl rfl rfl ?_
      have e : pushF (sU S) (sF S) = (8, fun k => if k = 7 then sF S else (sU S).2 (k + 1)) := by unfold pushF; rw [if_pos hn]
      show mup _ 36 1 _ 36 1 = (((pushF (sU S) (sF S)).1 : Nat) : Int)
      rw [mup_self, e, e8]
      rfl
  · have hn8 : (sU S).1 < 8 := by omega
    have hqn := hq1 _ hn8
    have hk := k_addN (a := 38 + 8 * q (sU S).1) hU hI (by simp) (by rw [hu]; exact ⟨by omega, by show ((sU S).1 : Int) < 8; omega⟩) (by rw [hu, show (((sU S).1 : Int)).toNat = (sU S).1 by omega]; exact sd_at _ hn8) (dm_n hD) (dm_u hD hqn) (by omega) (by omega)
    have hfr : ∀ r, r ≠ 36 → (r < 38 + 8 * q (sU S).1 ∨ 38 + 8 * q (sU S).1 + 7 < r) → mup (fcp I (38 + 8 * q (sU S).1) 28) 36 1 (I 36 1 + 1) r = I r := fun r a b => by rw [mup_nf a, fcp_fr b]
    have e : pushF (sU S) (sF S) = ((sU S).1 + 1, fun k => if k = (sU S).1 then sF S else (sU S).2 k) := by unfold pushF; rw [if_neg hn]
    refine ⟨none, _, hk, rfl, σ, _, rfl, fun r a => hfr r (by omega) (by omega), fun _ _ => rfl, rfl, nrm_mup (nrm_fcp hI) (by omega), hD, ⟨q, hq1, hq2, hU, ?_⟩, ?_⟩
    · intro k hk
      have hk : k < (pushF (sU S) (sF S)).1 := hk
      show FRC _ (38 + 8 * q k) (sL S) ((pushF (sU S) (sF S)).2 k)
      rw [e] at hk ⊢
      have hk : k < (sU S).1 + 1 := hk
      show FRC _ (38 + 8 * q k) (sL S) (if k = (sU S).1 then sF S else (sU S).2 k)
      by_cases z : k = (sU S).1
      · rw [if_pos z, z]
        exact (frc_cp hR.2.2.1 hL (by omega) (by decide)).fr hL (fun r a b => mup_nf (by omega)) (mup_nf (by decide))
      · rw [if_neg z]
        have hne : q k ≠ q (sU S).1 := fun h => z (hq2 k _ (by omega) hn8 h)
        have := hq1 k (by omega)
        exact (hq4 k (by omega)).fr hL (fun r a b => hfr r (by omega) (by omega)) (hfr 23 (by decide) (by omega))
    · refine rc_u hR hL hS.2.2.2.2.1 (fun r a => hfr r (by omega) (by omega)) rfl rfl rfl rfl rfl ?_
      show mup _ 36 1 _ 36 1 = (((pushF (sU S) (sF S)).1 : Nat) : Int)
      rw [mup_self, e, hu]
      show _ = (((sU S).1 + 1 : Nat) : Int)
      omega
/-- undoing -/
theorem k_undo0 {σ : List mC} {I : mI} {S : Sx} (hC : CS σ I S) (hn : (sU S).1 = 0) : mCt mX4_takeInto [mr 36, mr 28] (σ, I) (some (mi 0)) (σ, I) := by
  obtain ⟨hI, hD, ⟨q, hq1, hq2, hU, hq4⟩, hR⟩ := hC
  exact k_take0 hU hI (by rw [hR.2.2.2.2.2.2.2, hn]; rfl)
theorem k_undo1 {σ : List mC} {I : mI} {S : Sx} {B : Int} (hC : CS σ I S) (hS : SxOk B S) (hn : (sU S).1 ≠ 0) : ∃ K, mCt mX4_takeInto [mr 36, mr 28] (σ, I) (some (mi 1)) (σ, K) ∧ (∀ r, 144 ≤ r → K r = I r) ∧ CS σ K (z_undo S) := by
  obtain ⟨hI, hD, ⟨q, hq1, hq2, hU, hq4⟩, hR⟩ := hC
  have hL := hS.1
  have h8 := hS.2.2.1
  have hu : I 36 1 = ((sU S).1 : Int) := hR.2.2.2.2.2.2.2
  have hqn := hq1 ((sU S).1 - 1) (by omega)
  have hk := k_take1 (g := 28) (a := 38 + 8 * q ((sU S).1 - 1)) hU hI (by simp) (by rw [hu]; exact ⟨by omega, by show ((sU S).1 : Int) ≤ 8; omega⟩) (by rw [hu, show (((sU S).1 : Int) - 1).toNat = (sU S).1 - 1 by omega]; exact sd_at _ (by omega)) (dm_n hD) (dm_u hD hqn) (by omega)
  have e : z_undo S = (S.1, sL S, (sU S).2 ((sU S).1 - 1), ((sU S).1 - 1, (sU S).2), S.2.2.2.2) := by unfold z_undo; rw [if_neg hn]
  have hfr : ∀ r, r ≠ 36 → (r < 28 ∨ 35 < r) → fcp (mup I 36 1 (I 36 1 - 1)) 28 (38 + 8 * q ((sU S).1 - 1)) r = I r := fun r a b => by rw [fcp_fr (by omega), mup_nf a]
  refine ⟨_, hk, fun r a => hfr r (by omega) (by omega), ?_⟩
  rw [e]
  obtain ⟨a1, a2, a3, a4, a5, a6, a7, a8⟩ := hR
  refine ⟨nrm_fcp (nrm_mup hI (by omega)), hD, ⟨q, hq1, hq2, hU, fun k hk => ?_⟩, a1.fr (hfr 1 (by decide) (by decide)) (hfr 2 (by decide) (by decide)), a2.fr (fun r a b => hfr r (by omega) (by omega)), ?_, ?_, ?_, ?_, ?_, ?_⟩
  · have hk : k < (sU S).1 - 1 := hk
    exact (hq4 k (by omega)).fr hL (fun r a b => hfr r (by omega) (by omega)) (hfr 23 (by decide) (by decide))
  · exact frc_cp ((hq4 _ (by omega)).fr hL (fun r a b => mup_nf (by omega)) (mup_nf (by decide))) hL (by decide) (by omega)
  · show fcp _ _ _ 102 1 = _
    rw [hfr 102 (by decide) (by decide)]; exact a4
  · exact fun k hk => (a5 k hk).fr hL (fun r a b => hfr r (by omega) (by omega)) (hfr 23 (by decide) (by decide))
  · show fcp _ _ _ 0 8 = _
    rw [hfr 0 (by decide) (by decide)]; exact a6
  · exact fun k hk => by rw [hfr 121 (by decide) (by decide), hfr 123 (by decide) (by decide)]; exact a7 k hk
  · show fcp _ _ _ 36 1 = (((sU S).1 - 1 : Nat) : Int)
    rw [fcp_fr (by decide), mup_self, hu]
    omega
/-- keeping and going back -/
theorem kf_at (σ : List mC) (hD : IsDM σ) {k : Nat} (hk : k < 2) : IsForest σ (104 + 8 * k) ∧ ([some 104, some 112] : List (Option Nat)).getD k none = some (104 + 8 * k) := by
  rcases (show k = 0 ∨ k = 1 by omega) with z | z <;> subst z
  · exact ⟨dm_k0 hD, rfl⟩
  · exact ⟨dm_k1 hD, rfl⟩
theorem k_keep1 {σ : List mC} {I : mI} {S : Sx} {B : Int} (hC : CS σ I S) (hS : SxOk B S) (hn : (sK S).1 < 2) : ∃ K, mCt mX4_add [mr 102, mr 28] (σ, I) none (σ, K) ∧ (∀ r, 144 ≤ r → K r = I r) ∧ CS σ K (z_keep S) := by
  obtain ⟨hI, hD, ⟨q, hq1, hq2, hU, hq4⟩, hR⟩ := hC
  have hL := hS.1
  have h8 := hS.2.2.1
  obtain ⟨a1, a2, a3, a4, a5, a6, a7, a8⟩ := hR
  have hkf := kf_at σ hD hn
  have hk := k_addN (g := 28) (a := 104 + 8 * (sK S).1) (dm_k hD) hI (by decide) (by rw [a4]; exact ⟨by omega, by show ((sK S).1 : Int) < 2; omega⟩) (by rw [a4, show (((sK S).1 : Int)).toNat = (sK S).1 by omega]; exact hkf.2) (dm_n hD) hkf.1 (by omega) (by omega)
  have e : z_keep S = (S.1, sL S, sF S, sU S, ((sK S).1 + 1, fun k => if k = (sK S).1 then sF S else (sK S).2 k), sH S) := by unfold z_keep; rw [if_neg (by omega)]
  have hfr : ∀ r, r ≠ 102 → (r < 104 + 8 * (sK S).1 ∨ 104 + 8 * (sK S).1 + 7 < r) → mup (fcp I (104 + 8 * (sK S).1) 28) 102 1 (I 102 1 + 1) r = I r := fun r a b => by rw [mup_nf a, fcp_fr b]
  refine ⟨_, hk, fun r a => hfr r (by omega) (by omega), ?_⟩
  rw [e]
  refine ⟨nrm_mup (nrm_fcp hI) (by omega), hD, ⟨q, hq1, hq2, hU, fun k hk => (hq4 k hk).fr hL (fun r a b => hfr r (by have := hq1 k (by have hk : k < (sU S).1 := hk; omega); omega) (by have := hq1 k (by have hk : k < (sU S).1 := hk; omega); omega)) (hfr 23 (by decide) (by omega))⟩, a1.fr (hfr 1 (by decide) (by omega)) (hfr 2 (by decide) (by omega)), a2.fr (fun r a b => hfr r (by omega) (by omega)), a3.fr hL (fun r a b => hfr r (by omega) (by omega)) (hfr 23 (by decide) (by omega)), ?_, ?_, ?_, ?_, ?_⟩
  · show mup _ 102 1 _ 102 1 = (((sK S).1 + 1 : Nat) : Int)
    rw [mup_self, a4]
    omega
  · intro k hk
    have hk : k < (sK S).1 + 1 := hk
    show FRC _ (104 + 8 * k) (sL S) (if k = (sK S).1 then sF S else (sK S).2 k)
    by_cases z : k = (sK S).1
    · rw [if_pos z, z]
      exact (frc_cp a3 hL (by omega) (by decide)).fr hL (fun r a b => mup_nf (by omega)) (mup_nf (by decide))
    · rw [if_neg z]
      exact (a5 k (by omega)).fr hL (fun r a b => hfr r (by omega) (by omega)) (hfr 23 (by decide) (by omega))
  · show mup _ _ _ _ 0 8 = _
    rw [hfr 0 (by decide) (by omega)]; exact a6
  · exact fun k hk => by rw [hfr 121 (by decide) (by omega), hfr 123 (by decide) (by omega)]; exact a7 k hk
  · show mup _ _ _ _ 36 1 = _
    rw [hfr 36 (by decide) (by omega)]; exact a8
theorem k_back0 {σ : List mC} {I : mI} {S : Sx} (hC : CS σ I S) (hn : (sK S).1 = 0) : mCt mX4_takeInto [mr 102, mr 28] (σ, I) (some (mi 0)) (σ, I) := by
  obtain ⟨hI, hD, ⟨q, hq1, hq2, hU, hq4⟩, hR⟩ := hC
  exact k_take0 (dm_k hD) hI (by rw [hR.2.2.2.1, hn]; rfl)
theorem k_back1 {σ : List mC} {I : mI} {S : Sx} {B : Int} (hC : CS σ I S) (hS : SxOk B S) (hn : (sK S).1 ≠ 0) : ∃ K, mCt mX4_takeInto [mr 102, mr 28] (σ, I) (some (mi 1)) (σ, K) ∧ (∀ r, 144 ≤ r → K r = I r) ∧ Nrm K ∧ K 102 1 = (((sK S).1 - 1 : Nat) : Int) ∧ CS σ (mup K 36 1 0) (z_back S) := by
  obtain ⟨hI, hD, ⟨q, hq1, hq2, hU, hq4⟩, hR⟩ := hC
  have hL := hS.1
  have h2 := hS.2.2.2.2.1
  obtain ⟨a1, a2, a3, a4, a5, a6, a7, a8⟩ := hR
  have hkf := kf_at σ hD (k := (sK S).1 - 1) (by omega)
  have hk := k_take1 (g := 28) (a := 104 + 8 * ((sK S).1 - 1)) (dm_k hD) hI (by decide) (by rw [a4]; exact ⟨by omega, by show ((sK S).1 : Int) ≤ 2; omega⟩) (by rw [a4, show (((sK S).1 : Int) - 1).toNat = (sK S).1 - 1 by omega]; exact hkf.2) (dm_n hD) hkf.1 (by omega)
  have e : z_back S = (S.1, sL S, (sK S).2 ((sK S).1 - 1), (0, (sU S).2), ((sK S).1 - 1, (sK S).2), sH S) := by unfold z_back; rw [if_neg hn]
  have hfr0 : ∀ r, r ≠ 102 → (r < 28 ∨ 35 < r) → fcp (mup I 102 1 (I 102 1 - 1)) 28 (104 + 8 * ((sK S).1 - 1)) r = I r := fun r a b => by rw [fcp_fr (by omega), mup_nf a]
  have hN := nrm_fcp (f := 28) (g := 104 + 8 * ((sK S).1 - 1)) (nrm_mup (r := 102) (k := 1) (x := I 102 1 - 1) hI (by omega))
  have h102 : fcp (mup I 102 1 (I 102 1 - 1)) 28 (104 + 8 * ((sK S).1 - 1)) 102 1 = (((sK S).1 - 1 : Nat) : Int) := by rw [fcp_fr (by decide), mup_self, a4]; omega
  refine ⟨_, hk, fun r a => hfr0 r (by omega) (by omega), hN, h102, ?_⟩
  have hfr : ∀ r, r ≠ 102 → r ≠ 36 → (r < 28 ∨ 35 < r) → mup (fcp (mup I 102 1 (I 102 1 - 1)) 28 (104 + 8 * ((sK S).1 - 1))) 36 1 0 r = I r := fun r a b c => by rw [mup_nf b]; exact hfr0 r a c
  rw [e]
  refine ⟨nrm_mup hN (by decide), hD, ⟨q, hq1, hq2, hU, fun k hk => absurd hk (Nat.not_lt_zero k)⟩, a1.fr (hfr 1 (by decide) (by decide) (by decide)) (hfr 2 (by decide) (by decide) (by decide)), a2.fr (fun r a b => hfr r (by omega) (by omega) (by omega)), ?_, ?_, ?_, ?_, ?_, ?_⟩
  · exact (frc_cp ((a5 _ (by omega)).fr hL (fun r a b => mup_nf (by omega)) (mup_nf (by decide))) hL (by decide) (by omega)).fr hL (fun r a b => mup_nf (by omega)) (mup_nf (by decide))
  · show mup _ _ _ _ 102 1 = (((sK S).1 - 1 : Nat) : Int)
    rw [mup_nf (by decide)]
    exact h102
  · intro k hk
    have hk : k < (sK S).1 - 1 := hk
    exact (a5 k (by omega)).fr hL (fun r a b => hfr r (by omega) (by omega) (by omega)) (hfr 23 (by decide) (by decide) (by decide))
  · show mup _ _ _ _ 0 8 = _
    rw [hfr 0 (by decide) (by decide) (by decide)]; exact a6
  · exact fun k hk => by rw [hfr 121 (by decide) (by decide) (by decide), hfr 123 (by decide) (by decide) (by decide)]; exact a7 k hk
  · show mup _ 36 1 0 36 1 = ((0 : Nat) : Int)
    rw [mup_self]
    rfl
