/-! ===== the class's own text, read ===== -/
def mlet : List Int := [114, 48, 48, 49, 50, 51, 59, 114, 48, 49, 49, 49, 48, 59, 114, 51, 50, 48, 49, 48, 59, 114, 48, 48, 49, 51, 48, 59, 100, 48, 59, 100, 49, 59, 100, 50, 59, 100, 51, 59, 120, 48, 44, 55, 44, 48, 59, 120, 48, 44, 49, 51, 44, 51, 59, 120, 49, 44, 49, 44, 50, 59, 120, 50, 44, 49, 49, 44, 48, 59, 120, 51, 44, 49, 56, 44, 48, 59, 116, 48, 44, 49, 57, 44, 48, 59, 116, 52, 44, 49, 53, 44, 49, 59, 116, 49, 53, 44, 52, 44, 50, 59, 116, 49, 48, 44, 57, 44, 51, 59, 119, 49, 59]
def cF : Int → Int := fun i => if 0 ≤ i ∧ i < 113 then mlet.getD i.toNat 0 else 0
theorem mch_let : ∀ k : Fin 113, mch k.val = mlet.getD k.val 0 := by decide +kernel
theorem mlet_r : ∀ k : Fin 113, 0 ≤ mlet.getD k.val 0 ∧ mlet.getD k.val 0 ≤ 200 := by decide +kernel
theorem lay_F : layd cF 113 = true := by decide +kernel
theorem rF_n : rRows (rdS cF 113) = 4 ∧ rWid (rdS cF 113) = 5 ∧ rDr (rdS cF 113) = 4 ∧ rNt (rdS cF 113) = 4 ∧ rWet (rdS cF 113) = 1 := by decide +kernel
theorem rF_g : ∀ j : Fin 20, rGr (rdS cF 113) ((j.val : Nat) : Int) = ([0, 0, 1, 2, 3, 0, 1, 1, 1, 0, 3, 2, 0, 1, 0, 0, 0, 1, 3, 0] : List Int).getD j.val 0 := by decide +kernel
theorem rF_k : ∀ d : Fin 4, rKd (rdS cF 113) ((d.val : Nat) : Int) = ((d.val : Nat) : Int) := by decide +kernel
theorem rF_o : ∀ i : Fin 144, rOd (rdS cF 113) ((i.val : Nat) : Int) = (if i.val = 7 then 0 else if i.val = 13 then 3 else if i.val = 37 then 2 else if i.val = 83 then 0 else if i.val = 126 then 0 else -1) := by decide +kernel
theorem rF_t : ∀ t : Fin 4, rTv (rdS cF 113) ((t.val : Nat) : Int) = ([(0, 19, 0), (4, 15, 1), (15, 4, 2), (10, 9, 3)] : List (Int × Int × Int)).getD t.val (0, 0, 0) := by decide +kernel
theorem rF_ok : RdOk (rdS cF 113) := prs_ok 201 0 rd0 rd0_ok
/-- where all begins -/
def S0 : Sx := ((fun _ => 0, 0), ldR (rdS cF 113), fsR (rdS cF 113), (0, fun _ => fsR (rdS cF 113)), (0, fun _ => fsR (rdS cF 113)), (0, fun _ => 0, fun _ => 0))
theorem S0_ok : SxOk 0 S0 := by
  have q := of_decide_eq_true lay_F
  exact ⟨ldR_ok rF_ok q.2.1 q.2.2, fsR_ok rF_ok q.2.1 q.2.2, Nat.zero_le 8, fun k hk => absurd hk (Nat.not_lt_zero k), Nat.zero_le 2, fun k hk => absurd hk (Nat.not_lt_zero k), Nat.zero_le 8, fun k hk => absurd hk (Nat.not_lt_zero k), ⟨(by decide : (0 : Int) ≤ 0), (by decide : (0 : Int) ≤ 200)⟩⟩
/-- the text while it is written -/
def txI (k : Nat) : mI := fun r q => if r = 2 ∧ q < k then mch q else if r = 1 ∧ q = 1 then (k : Int) else 0
theorem txI_0 : txI 0 = mI0 := by
  funext r q
  unfold txI mI0
  rw [if_neg (by omega)]
  split <;> rfl
theorem mch_r {k : Nat} (hk : k < 113) : 0 ≤ mch k ∧ mch k ≤ 200 := by
  have := mch_let ⟨k, hk⟩
  have h := mlet_r ⟨k, hk⟩
  simp only at this h
  rw [this]
  exact h
theorem txI_nrm {k : Nat} (hk : k ≤ 113) : Nrm (txI k) := by
  intro r q
  unfold txI
  split
  · next h => have := mch_r (show q < 113 by omega); omega
  · split
    · omega
    · exact ⟨by decide, by decide⟩
theorem txI_len {k : Nat} : txI k 1 1 = (k : Int) := by
  unfold txI
  rw [if_neg (by omega), if_pos ⟨rfl, rfl⟩]
theorem txI_s {k : Nat} (hk : k < 113) : tadd (txI k) 1 (mch k) = txI (k + 1) := by
  unfold tadd
  rw [txI_len, if_pos (by omega), show ((k : Int)).toNat = k by omega]
  funext r q
  unfold mup txI
  by_cases h : r = 1 ∧ q = 1
  · rw [if_pos h, if_neg (by omega), if_pos h]; omega
  · rw [if_neg h]
    by_cases h2 : r = 1 + 1 ∧ q = k
    · rw [if_pos h2, if_pos (by omega), h2.2]
    · rw [if_neg h2]
      by_cases h3 : r = 2 ∧ q < k
      · rw [if_pos h3, if_pos (by omega)]
      · rw [if_neg h3, if_neg h, if_neg (by omega), if_neg h]
theorem txI_T : TXt (txI 113) cF 113 := by
  refine ⟨⟨by decide, by decide⟩, txI_len, fun i => ?_, fun i => ?_⟩
  · unfold tla cF
    rw [txI_len]
    by_cases h : 0 ≤ i ∧ i < 113
    · have h' : 0 ≤ i ∧ i < ((113 : Nat) : Int) := h
      rw [if_pos h, if_pos h']
      show txI 113 2 i.toNat = _
      unfold txI
      rw [if_pos ⟨rfl, by omega⟩]
      exact mch_let ⟨i.toNat, by omega⟩
    · have h' : ¬ (0 ≤ i ∧ i < ((113 : Nat) : Int)) := h
      rw [if_neg h, if_neg h']
  · unfold cF
    split
    · next h =>
      have := mlet_r ⟨i.toNat, by omega⟩
      simp only at this
      omega
    · exact ⟨by decide, by decide⟩

def bDrum : List mC := .inl (8, [some (some 1), some (some 3), some (some 21), some (some 28), some (some 36), some (some 102), some (some 120), some (some 122), none, some (some 124), some (some 132), some (some 133), some (some 134), some (some 139)]) :: ((((((((((((([] ++ bText 1) ++ bReader 3) ++ bLand 21) ++ bForest 28) ++ bShelf8 36) ++ bShelf2 102) ++ bRow 120 8) ++ bRow 122 8) ++ bForest 124) ++ bTrv) ++ bTrv) ++ bWays 134) ++ bWays 139)

set_option maxRecDepth 100000 in
theorem bD_len : bDrum.length = 144 := rfl
theorem bD_dm : IsDM bDrum := by
  refine ⟨rfl, ⟨⟨rfl, rfl⟩, rfl, ⟨rfl, ⟨rfl, rfl⟩, ⟨rfl, rfl⟩, ⟨rfl, rfl⟩⟩, ⟨rfl, ⟨rfl, rfl⟩, rfl, fun t ht => ?_⟩, ⟨rfl, rfl⟩⟩, ⟨rfl, ⟨rfl, rfl⟩, ⟨rfl, rfl⟩, ⟨rfl, rfl⟩⟩, ⟨rfl, ⟨rfl, rfl⟩, rfl, fun t ht => ?_⟩, fun i hi => ?_, ⟨rfl, rfl⟩, ⟨rfl, ⟨rfl, rfl⟩, rfl, fun t ht => ?_⟩, ⟨rfl, ⟨rfl, rfl⟩, rfl, fun t ht => ?_⟩, ⟨rfl, rfl⟩, ⟨rfl, rfl⟩, ⟨rfl, ⟨rfl, rfl⟩, rfl, fun t ht => ?_⟩, rfl, rfl, ⟨rfl, ⟨rfl, rfl⟩, ⟨rfl, rfl⟩⟩, ⟨rfl, ⟨rfl, rfl⟩, ⟨rfl, rfl⟩⟩⟩
  · match t, ht with
    | 0, _ => rfl
    | 1, _ => rfl
    | 2, _ => rfl
    | 3, _ => rfl
    | _ + 4, h => exact absurd h (by omega)
  · match t, ht with
    | 0, _ => rfl
    | 1, _ => rfl
    | 2, _ => rfl
    | 3, _ => rfl
    | _ + 4, h => exact absurd h (by omega)
  · have key : ∀ f : Nat, (f = 38 ∨ f = 46 ∨ f = 54 ∨ f = 62 ∨ f = 70 ∨ f = 78 ∨ f = 86 ∨ f = 94) → IsForest bDrum f := by
      intro f hf
      rcases hf with rfl | rfl | rfl | rfl | rfl | rfl | rfl | rfl <;> exact ⟨rfl, ⟨rfl, rfl⟩, rfl, fun t ht => by
        match t, ht with
        | 0, _ => rfl
        | 1, _ => rfl
        | 2, _ => rfl
        | 3, _ => rfl
        | _ + 4, h => exact absurd h (by omega)⟩
    exact key _ (by omega)
  · match t, ht with
    | 0, _ => rfl
    | 1, _ => rfl
    | 2, _ => rfl
    | 3, _ => rfl
    | _ + 4, h => exact absurd h (by omega)
  · match t, ht with
    | 0, _ => rfl
    | 1, _ => rfl
    | 2, _ => rfl
    | 3, _ => rfl
    | _ + 4, h => exact absurd h (by omega)
  · match t, ht with
    | 0, _ => rfl
    | 1, _ => rfl
    | 2, _ => rfl
    | 3, _ => rfl
    | _ + 4, h => exact absurd h (by omega)
theorem bD_sh : IsShelf bDrum 36 [some (38 + 8 * 0), some (38 + 8 * 1), some (38 + 8 * 2), some (38 + 8 * 3), some (38 + 8 * 4), some (38 + 8 * 5), some (38 + 8 * 6), some (38 + 8 * 7)] := ⟨rfl, rfl⟩

set_option maxRecDepth 100000 in
theorem c_letters {post : Option mV → mH → Prop} (kk : mRun mZt mX8_init 185 [some (mr 0), some (mi ((113 : Nat) : Int))] [] (bDrum, txI 113) post) : ∀ (n k : Nat), 113 - k < n → k ≤ 113 → mRun mZt mX8_init 156 [some (mr 0), some (mi (k : Int))] [] (bDrum, txI k) post := by
  intro n
  induction n with
  | zero => intro k h; omega
  | succ n ih =>
    intro k hn hk
    have hD := bD_dm
    refine mRun.go (q_iload_n dX8_init_156 rfl rfl) ?_
    refine mRun.go (q_textLen (Nat.le_of_ble_eq_true rfl)) ?_
    refine r_icmp_ge (tgt := 185) dX8_init_162 (by decide) (by omega) (by omega) (fun c162 => ?_) (fun c162 => ?_)
    · have hke : k = 113 := by omega
      subst hke
      exact kk
    · refine mRun.go (q_aload_n dX8_init_165 rfl rfl) ?_
      refine mRun.go (q_getR dX8_init_166 fo_X8_10 hD.1 rfl) ?_
      refine mRun.go (q_textAt (k := k) (by omega) (Nat.le_of_ble_eq_true rfl) rfl) ?_
      have hadd := @k_add bDrum (txI k) 1 (mch k) (dm_t hD) (txI_nrm hk) (by rw [txI_len]; omega)
      rw [txI_s (by omega)] at hadd
      refine mRun.go (q_callVi (r := 1) [mi (mch k)] [] dX8_init_175 co_X8_94 ⟨Nat.le_of_ble_eq_true rfl, Nat.le_of_ble_eq_true rfl⟩ gw_269 gw_270 rfl (dm_t hD).1 rfl rfl rfl (Nat.le_of_ble_eq_true rfl) hadd) ?_
      refine mRun.go (q_pop dX8_init_178 rfl) ?_
      refine mRun.go (q_iinc (ls' := [some (mr 0), some (mi ((k : Int) + 1))]) dX8_init_179 rfl (Nat.le_of_ble_eq_true rfl) rfl) ?_
      refine mRun.go (q_goto (tgt := 156) dX8_init_182 (by decide)) ?_
      have e1 : ((k : Int) + 1) = ((k + 1 : Nat) : Int) := by omega
      rw [e1]
      exact ih (k + 1) (by omega) (by omega)

set_option maxRecDepth 100000 in
theorem c_end : mRun mZt mX8_init 185 [some (mr 0), some (mi ((113 : Nat) : Int))] [] (bDrum, txI 113) (fun v h => v = none ∧ ∃ (σ : List mC) (K : mI), h = (σ, K) ∧ σ = bDrum ∧ Nrm K ∧ (∀ r, 144 ≤ r → K r = mI0 r) ∧ CS σ K S0) := by
  have hD := bD_dm
  have hU := bD_sh
  refine mRun.go (q_aload_n dX8_init_185 rfl rfl) ?_
  obtain ⟨v1, h1, hc1, rfl, K, rfl, hK, hf1, -, hf2⟩ := k_layText (txI_nrm (Nat.le_refl 113)) hD bD_sh txI_T
  rw [if_pos lay_F] at hc1
  obtain ⟨q1, q2, q3, q4, q5⟩ := hf2 lay_F
  refine mRun.go (q_callVi (r := 0) [] [] dX8_init_186 co_X8_98 ⟨Nat.le_of_ble_eq_true rfl, Nat.le_of_ble_eq_true rfl⟩ gw_274 gs_0 rfl hD.1 rfl rfl rfl (Nat.le_of_ble_eq_true rfl) hc1) ?_
  refine mRun.go (q_pop dX8_init_189 rfl) ?_
  refine mRun.go (q_aload_n dX8_init_190 rfl rfl) ?_
  refine mRun.go (q_getR dX8_init_191 fo_X8_10 hD.1 rfl) ?_
  refine mRun.go (q_iconst dX8_init_194) ?_
  refine mRun.go (q_putI dX8_init_195 fo_X8_102 fp_5_1 (dm_t hD).1 rfl) ?_
  refine r_ret dX8_init_198 rfl ?_
  have hfr : ∀ r, r ≠ 1 → mup K 1 1 0 r = K r := fun r a => mup_nf a
  refine ⟨rfl, _, _, rfl, rfl, nrm_mup hK (by decide), ?_, nrm_mup hK (by decide), hD, ⟨fun k => k, fun k hk => hk, fun j k _ _ h => h, bD_sh, fun k hk => absurd hk (Nat.not_lt_zero k)⟩, ⟨⟨by decide, by decide⟩, mup_self, fun i => ?_, fun i => ⟨(by decide : (-2147483648 : Int) ≤ 0), (by decide : (0 : Int) < 2147483648)⟩⟩, q1.fr (fun r a b => hfr r (by omega)), q2.fr (ldR_ok rF_ok (of_decide_eq_true lay_F).2.1 (of_decide_eq_true lay_F).2.2) (fun r a b => hfr r (by omega)) (hfr 23 (by decide)), by rw [hfr 102 (by decide)]; exact q5, fun k hk => absurd hk (Nat.not_lt_zero k), by rw [hfr 0 (by decide)]; exact q3, fun k hk => absurd hk (Nat.not_lt_zero k), by rw [hfr 36 (by decide)]; exact q4⟩
  · intro r hr
    rw [hfr r (by omega), hf1 r (by omega)]
    funext q
    unfold txI mI0
    rw [if_neg (by omega), if_neg (by omega)]
  · unfold tla
    rw [mup_self, if_neg (by omega)]
    rfl

set_option maxRecDepth 100000 in
theorem c_Drum : mMt mX8_init [mr 0] ([.inl (8, [some none, some none, some none, some none, some none, some none, some none, some none, none, some none, some none, some none, some none, some none])], mI0) (fun v h => v = none ∧ ∃ (σ : List mC) (K : mI), h = (σ, K) ∧ σ = bDrum ∧ Nrm K ∧ (∀ r, 144 ≤ r → K r = mI0 r) ∧ CS σ K S0) := by
  refine mMt.of pl_8 (Nat.le_of_ble_eq_true rfl) ?_
  show mRun mZt mX8_init 0 [some (mr 0), none] [] ([] ++ (.inl (8, [some none, some none, some none, some none, some none, some none, some none, some none, none, some none, some none, some none, some none, some none])) :: [], mI0) _
  have hn : ([] : List mC).length = 0 := rfl
  refine mRun.go (q_aload_n dX8_init_0 rfl rfl) ?_
  refine mRun.go (q_objInit dX8_init_1 gw_22 gw_23 gw_24 (Nat.le_of_ble_eq_true rfl) (Nat.le_of_ble_eq_true rfl) (Nat.le_of_ble_eq_true rfl)) ?_
  refine mRun.go (q_aload_n dX8_init_4 rfl rfl) ?_
  refine mRun.go (n_mk (ci := 5) (q := (RX5, TX5, 2)) (fs := [some none, none]) (b := fun n => bText n) (as := []) hn (j := 0) rfl dX8_init_5 rfl gw_25 gw_26 gw_2 rfl fr_5 dX8_init_8 (fun st h => mGo.rf) dX8_init_9 co_X8_9 ⟨Nat.le_of_ble_eq_true rfl, Nat.le_of_ble_eq_true rfl⟩ gw_28 rfl rfl rfl (fun σ n hn => c_Text hn) dX8_init_12 fo_X8_10 fp_8_0 (Or.inl ⟨_, rfl⟩) rfl rfl (Nat.le_of_ble_eq_true rfl)) ?_
  show mRun mZt mX8_init 15 [some (mr 0), none] [] ([] ++ (.inl (8, [some (some 1), some none, some none, some none, some none, some none, some none, some none, none, some none, some none, some none, some none, some none]) :: ([] ++ bText 1)), mI0) _
  refine mRun.go (q_aload_n dX8_init_15 rfl rfl) ?_
  refine mRun.go (n_mk (ci := 2) (q := (RX2, TX2, 3)) (fs := [some none, some none, some none]) (b := fun n => bReader n) (as := []) hn (j := 2) rfl dX8_init_16 rfl gw_41 gw_42 gw_3 rfl fr_2 dX8_init_19 (fun st h => mGo.rf) dX8_init_20 co_X8_18 ⟨Nat.le_of_ble_eq_true rfl, Nat.le_of_ble_eq_true rfl⟩ gw_44 rfl rfl rfl (fun σ n hn => c_Reader hn) dX8_init_23 fo_X8_19 fp_8_1 (Or.inl ⟨_, rfl⟩) rfl rfl (Nat.le_of_ble_eq_true rfl)) ?_
  show mRun mZt mX8_init 26 [some (mr 0), none] [] ([] ++ (.inl (8, [some (some 1), some (some 3), some none, some none, some none, some none, some none, some none, none, some none, some none, some none, some none, some none]) :: (([] ++ bText 1) ++ bReader 3)), mI0) _
  refine mRun.go (q_aload_n dX8_init_26 rfl rfl) ?_
  refine mRun.go (n_mk (ci := 1) (q := (RX1, TX1, 8)) (fs := [some none, some none, some none, none, none, none, none, none]) (b := fun n => bLand n) (as := []) hn (j := 20) rfl dX8_init_27 rfl gw_179 gw_48 gw_4 rfl fr_1 dX8_init_30 (fun st h => mGo.rf) dX8_init_31 co_X8_25 ⟨Nat.le_of_ble_eq_true rfl, Nat.le_of_ble_eq_true rfl⟩ gw_50 rfl rfl rfl (fun σ n hn => c_Land hn) dX8_init_34 fo_X8_26 fp_8_2 (Or.inl ⟨_, rfl⟩) rfl rfl (Nat.le_of_ble_eq_true rfl)) ?_
  show mRun mZt mX8_init 37 [some (mr 0), none] [] ([] ++ (.inl (8, [some (some 1), some (some 3), some (some 21), some none, some none, some none, some none, some none, none, some none, some none, some none, some none, some none]) :: ((([] ++ bText 1) ++ bReader 3) ++ bLand 21)), mI0) _
  refine mRun.go (q_aload_n dX8_init_37 rfl rfl) ?_
  refine mRun.go (n_mk (ci := 0) (q := (RX0, TX0, 4)) (fs := [some none, some none, none, none]) (b := fun n => bForest n) (as := []) hn (j := 27) rfl dX8_init_38 rfl gw_181 gw_108 gw_6 rfl fr_0 dX8_init_41 (fun st h => mGo.rf) dX8_init_42 co_X8_32 ⟨Nat.le_of_ble_eq_true rfl, Nat.le_of_ble_eq_true rfl⟩ gw_110 rfl rfl rfl (fun σ n hn => c_Forest hn) dX8_init_45 fo_X8_33 fp_8_3 (Or.inl ⟨_, rfl⟩) rfl rfl (Nat.le_of_ble_eq_true rfl)) ?_
  show mRun mZt mX8_init 48 [some (mr 0), none] [] ([] ++ (.inl (8, [some (some 1), some (some 3), some (some 21), some (some 28), some none, some none, some none, some none, none, some none, some none, some none, some none, some none]) :: (((([] ++ bText 1) ++ bReader 3) ++ bLand 21) ++ bForest 28)), mI0) _
  refine mRun.go (q_aload_n dX8_init_48 rfl rfl) ?_
  refine mRun.go (n_mk (ci := 4) (q := (RX4, TX4, 2)) (fs := [some none, none]) (b := fun n => bShelf8 n) (as := [mi 8]) hn (j := 35) rfl dX8_init_49 rfl gw_183 gw_184 gw_8 rfl fr_4 dX8_init_52 (fun st h => q_bipush dX8_init_53 (by decide)) dX8_init_55 co_X8_39 ⟨Nat.le_of_ble_eq_true rfl, Nat.le_of_ble_eq_true rfl⟩ gw_186 rfl rfl rfl (fun σ n hn => c_Shelf8 hn) dX8_init_58 fo_X8_42 fp_8_4 (Or.inl ⟨_, rfl⟩) rfl rfl (Nat.le_of_ble_eq_true rfl)) ?_
  show mRun mZt mX8_init 61 [some (mr 0), none] [] ([] ++ (.inl (8, [some (some 1), some (some 3), some (some 21), some (some 28), some (some 36), some none, some none, some none, none, some none, some none, some none, some none, some none]) :: ((((([] ++ bText 1) ++ bReader 3) ++ bLand 21) ++ bForest 28) ++ bShelf8 36)), mI0) _
  refine mRun.go (q_aload_n dX8_init_61 rfl rfl) ?_
  refine mRun.go (n_mk (ci := 4) (q := (RX4, TX4, 2)) (fs := [some none, none]) (b := fun n => bShelf2 n) (as := [mi 2]) hn (j := 101) rfl dX8_init_62 rfl gw_183 gw_184 gw_8 rfl fr_4 dX8_init_65 (fun st h => q_iconst dX8_init_66) dX8_init_67 co_X8_39 ⟨Nat.le_of_ble_eq_true rfl, Nat.le_of_ble_eq_true rfl⟩ gw_186 rfl rfl rfl (fun σ n hn => c_Shelf2 hn) dX8_init_70 fo_X8_46 fp_8_5 (Or.inl ⟨_, rfl⟩) rfl rfl (Nat.le_of_ble_eq_true rfl)) ?_
  show mRun mZt mX8_init 73 [some (mr 0), none] [] ([] ++ (.inl (8, [some (some 1), some (some 3), some (some 21), some (some 28), some (some 36), some (some 102), some none, some none, none, some none, some none, some none, some none, some none]) :: (((((([] ++ bText 1) ++ bReader 3) ++ bLand 21) ++ bForest 28) ++ bShelf8 36) ++ bShelf2 102)), mI0) _
  refine mRun.go (q_aload_n dX8_init_73 rfl rfl) ?_
  refine mRun.go (n_mk (ci := 3) (q := (RX3, TX3, 1)) (fs := [some none]) (b := fun n => bRow n 8) (as := [mi 8]) hn (j := 119) rfl dX8_init_74 rfl gw_200 gw_54 gw_5 rfl fr_3 dX8_init_77 (fun st h => q_bipush dX8_init_78 (by decide)) dX8_init_80 co_X8_51 ⟨Nat.le_of_ble_eq_true rfl, Nat.le_of_ble_eq_true rfl⟩ gw_56 rfl rfl rfl (fun σ n hn => c_Row (k := 8) (by decide) hn) dX8_init_83 fo_X8_52 fp_8_6 (Or.inl ⟨_, rfl⟩) rfl rfl (Nat.le_of_ble_eq_true rfl)) ?_
  show mRun mZt mX8_init 86 [some (mr 0), none] [] ([] ++ (.inl (8, [some (some 1), some (some 3), some (some 21), some (some 28), some (some 36), some (some 102), some (some 120), some none, none, some none, some none, some none, some none, some none]) :: ((((((([] ++ bText 1) ++ bReader 3) ++ bLand 21) ++ bForest 28) ++ bShelf8 36) ++ bShelf2 102) ++ bRow 120 8)), mI0) _
  refine mRun.go (q_aload_n dX8_init_86 rfl rfl) ?_
  refine mRun.go (n_mk (ci := 3) (q := (RX3, TX3, 1)) (fs := [some none]) (b := fun n => bRow n 8) (as := [mi 8]) hn (j := 121) rfl dX8_init_87 rfl gw_200 gw_54 gw_5 rfl fr_3 dX8_init_90 (fun st h => q_bipush dX8_init_91 (by decide)) dX8_init_93 co_X8_51 ⟨Nat.le_of_ble_eq_true rfl, Nat.le_of_ble_eq_true rfl⟩ gw_56 rfl rfl rfl (fun σ n hn => c_Row (k := 8) (by decide) hn) dX8_init_96 fo_X8_56 fp_8_7 (Or.inl ⟨_, rfl⟩) rfl rfl (Nat.le_of_ble_eq_true rfl)) ?_
  show mRun mZt mX8_init 99 [some (mr 0), none] [] ([] ++ (.inl (8, [some (some 1), some (some 3), some (some 21), some (some 28), some (some 36), some (some 102), some (some 120), some (some 122), none, some none, some none, some none, some none, some none]) :: (((((((([] ++ bText 1) ++ bReader 3) ++ bLand 21) ++ bForest 28) ++ bShelf8 36) ++ bShelf2 102) ++ bRow 120 8) ++ bRow 122 8)), mI0) _
  refine mRun.go (q_aload_n dX8_init_99 rfl rfl) ?_
  refine mRun.go (n_mk (ci := 0) (q := (RX0, TX0, 4)) (fs := [some none, some none, none, none]) (b := fun n => bForest n) (as := []) hn (j := 123) rfl dX8_init_100 rfl gw_181 gw_108 gw_6 rfl fr_0 dX8_init_103 (fun st h => mGo.rf) dX8_init_104 co_X8_32 ⟨Nat.le_of_ble_eq_true rfl, Nat.le_of_ble_eq_true rfl⟩ gw_110 rfl rfl rfl (fun σ n hn => c_Forest hn) dX8_init_107 fo_X8_59 fp_8_9 (Or.inl ⟨_, rfl⟩) rfl rfl (Nat.le_of_ble_eq_true rfl)) ?_
  show mRun mZt mX8_init 110 [some (mr 0), none] [] ([] ++ (.inl (8, [some (some 1), some (some 3), some (some 21), some (some 28), some (some 36), some (some 102), some (some 120), some (some 122), none, some (some 124), some none, some none, some none, some none]) :: ((((((((([] ++ bText 1) ++ bReader 3) ++ bLand 21) ++ bForest 28) ++ bShelf8 36) ++ bShelf2 102) ++ bRow 120 8) ++ bRow 122 8) ++ bForest 124)), mI0) _
  refine mRun.go (q_aload_n dX8_init_110 rfl rfl) ?_
  refine mRun.go (n_mk (ci := 6) (q := (RX6, TX6, 6)) (fs := [none, none, none, none, none, none]) (b := fun n => bTrv) (as := []) hn (j := 131) rfl dX8_init_111 rfl gw_202 gw_117 gw_7 rfl fr_6 dX8_init_114 (fun st h => mGo.rf) dX8_init_115 co_X8_64 ⟨Nat.le_of_ble_eq_true rfl, Nat.le_of_ble_eq_true rfl⟩ gw_119 rfl rfl rfl (fun σ n hn => c_Trv hn) dX8_init_118 fo_X8_65 fp_8_10 (Or.inl ⟨_, rfl⟩) rfl rfl (Nat.le_of_ble_eq_true rfl)) ?_
  show mRun mZt mX8_init 121 [some (mr 0), none] [] ([] ++ (.inl (8, [some (some 1), some (some 3), some (some 21), some (some 28), some (some 36), some (some 102), some (some 120), some (some 122), none, some (some 124), some (some 132), some none, some none, some none]) :: (((((((((([] ++ bText 1) ++ bReader 3) ++ bLand 21) ++ bForest 28) ++ bShelf8 36) ++ bShelf2 102) ++ bRow 120 8) ++ bRow 122 8) ++ bForest 124) ++ bTrv)), mI0) _
  refine mRun.go (q_aload_n dX8_init_121 rfl rfl) ?_
  refine mRun.go (n_mk (ci := 6) (q := (RX6, TX6, 6)) (fs := [none, none, none, none, none, none]) (b := fun n => bTrv) (as := []) hn (j := 132) rfl dX8_init_122 rfl gw_202 gw_117 gw_7 rfl fr_6 dX8_init_125 (fun st h => mGo.rf) dX8_init_126 co_X8_64 ⟨Nat.le_of_ble_eq_true rfl, Nat.le_of_ble_eq_true rfl⟩ gw_119 rfl rfl rfl (fun σ n hn => c_Trv hn) dX8_init_129 fo_X8_69 fp_8_11 (Or.inl ⟨_, rfl⟩) rfl rfl (Nat.le_of_ble_eq_true rfl)) ?_
  show mRun mZt mX8_init 132 [some (mr 0), none] [] ([] ++ (.inl (8, [some (some 1), some (some 3), some (some 21), some (some 28), some (some 36), some (some 102), some (some 120), some (some 122), none, some (some 124), some (some 132), some (some 133), some none, some none]) :: ((((((((((([] ++ bText 1) ++ bReader 3) ++ bLand 21) ++ bForest 28) ++ bShelf8 36) ++ bShelf2 102) ++ bRow 120 8) ++ bRow 122 8) ++ bForest 124) ++ bTrv) ++ bTrv)), mI0) _
  refine mRun.go (q_aload_n dX8_init_132 rfl rfl) ?_
  refine mRun.go (n_mk (ci := 7) (q := (RX7, TX7, 2)) (fs := [some none, some none]) (b := fun n => bWays n) (as := []) hn (j := 133) rfl dX8_init_133 rfl gw_204 gw_205 gw_9 rfl fr_7 dX8_init_136 (fun st h => mGo.rf) dX8_init_137 co_X8_74 ⟨Nat.le_of_ble_eq_true rfl, Nat.le_of_ble_eq_true rfl⟩ gw_207 rfl rfl rfl (fun σ n hn => c_Ways hn) dX8_init_140 fo_X8_75 fp_8_12 (Or.inl ⟨_, rfl⟩) rfl rfl (Nat.le_of_ble_eq_true rfl)) ?_
  show mRun mZt mX8_init 143 [some (mr 0), none] [] ([] ++ (.inl (8, [some (some 1), some (some 3), some (some 21), some (some 28), some (some 36), some (some 102), some (some 120), some (some 122), none, some (some 124), some (some 132), some (some 133), some (some 134), some none]) :: (((((((((((([] ++ bText 1) ++ bReader 3) ++ bLand 21) ++ bForest 28) ++ bShelf8 36) ++ bShelf2 102) ++ bRow 120 8) ++ bRow 122 8) ++ bForest 124) ++ bTrv) ++ bTrv) ++ bWays 134)), mI0) _
  refine mRun.go (q_aload_n dX8_init_143 rfl rfl) ?_
  refine mRun.go (n_mk (ci := 7) (q := (RX7, TX7, 2)) (fs := [some none, some none]) (b := fun n => bWays n) (as := []) hn (j := 138) rfl dX8_init_144 rfl gw_204 gw_205 gw_9 rfl fr_7 dX8_init_147 (fun st h => mGo.rf) dX8_init_148 co_X8_74 ⟨Nat.le_of_ble_eq_true rfl, Nat.le_of_ble_eq_true rfl⟩ gw_207 rfl rfl rfl (fun σ n hn => c_Ways hn) dX8_init_151 fo_X8_79 fp_8_13 (Or.inl ⟨_, rfl⟩) rfl rfl (Nat.le_of_ble_eq_true rfl)) ?_
  show mRun mZt mX8_init 154 [some (mr 0), none] [] ([] ++ (.inl (8, [some (some 1), some (some 3), some (some 21), some (some 28), some (some 36), some (some 102), some (some 120), some (some 122), none, some (some 124), some (some 132), some (some 133), some (some 134), some (some 139)]) :: ((((((((((((([] ++ bText 1) ++ bReader 3) ++ bLand 21) ++ bForest 28) ++ bShelf8 36) ++ bShelf2 102) ++ bRow 120 8) ++ bRow 122 8) ++ bForest 124) ++ bTrv) ++ bTrv) ++ bWays 134) ++ bWays 139)), mI0) _
  refine mRun.go (q_iconst dX8_init_154) ?_
  refine mRun.go (q_istore_n (ls' := [some (mr 0), some (mi 0)]) dX8_init_155 rfl (Nat.le_of_ble_eq_true rfl) rfl) ?_
  show mRun mZt mX8_init 156 [some (mr 0), some (mi ((0 : Nat) : Int))] [] (bDrum, mI0) _
  have h := c_letters c_end 114 0 (by decide) (by decide)
  rw [txI_0] at h
  exact h
