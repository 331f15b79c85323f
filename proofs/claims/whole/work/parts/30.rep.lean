/-! ===== the class's heap and what it stands for ===== -/
def IsDM (σ : List mC) : Prop := σ[0]? = some (.inl (8, [some (some 1), some (some 3), some (some 21), some (some 28), some (some 36), some (some 102), some (some 120), some (some 122), none, some (some 124), some (some 132), some (some 133), some (some 134), some (some 139)])) ∧ IsRd σ ∧ IsLand σ 21 ∧ IsForest σ 28 ∧ (∀ i, i < 8 → IsForest σ (38 + 8 * i)) ∧ IsShelf σ 102 [some 104, some 112] ∧ IsForest σ 104 ∧ IsForest σ 112 ∧ IsRow σ 120 8 ∧ IsRow σ 122 8 ∧ IsForest σ 124 ∧ IsTrv σ 132 ∧ IsTrv σ 133 ∧ IsWays σ 134 ∧ IsWays σ 139
section DM
variable {σ : List mC}
theorem dm_r (h : IsDM σ) : IsRd σ := h.2.1
theorem dm_t (h : IsDM σ) : IsText σ 1 := h.2.1.1
theorem dm_l (h : IsDM σ) : IsLand σ 21 := h.2.2.1
theorem dm_n (h : IsDM σ) : IsForest σ 28 := h.2.2.2.1
theorem dm_u (h : IsDM σ) {i : Nat} (hi : i < 8) : IsForest σ (38 + 8 * i) := h.2.2.2.2.1 i hi
theorem dm_k (h : IsDM σ) : IsShelf σ 102 [some 104, some 112] := h.2.2.2.2.2.1
theorem dm_k0 (h : IsDM σ) : IsForest σ 104 := h.2.2.2.2.2.2.1
theorem dm_k1 (h : IsDM σ) : IsForest σ 112 := h.2.2.2.2.2.2.2.1
theorem dm_hp (h : IsDM σ) : IsRow σ 120 8 := h.2.2.2.2.2.2.2.2.1
theorem dm_ht (h : IsDM σ) : IsRow σ 122 8 := h.2.2.2.2.2.2.2.2.2.1
theorem dm_s (h : IsDM σ) : IsForest σ 124 := h.2.2.2.2.2.2.2.2.2.2.1
theorem dm_w (h : IsDM σ) : IsTrv σ 132 := h.2.2.2.2.2.2.2.2.2.2.2.1
theorem dm_o (h : IsDM σ) : IsTrv σ 133 := h.2.2.2.2.2.2.2.2.2.2.2.2.1
theorem dm_y (h : IsDM σ) : IsWays σ 134 := h.2.2.2.2.2.2.2.2.2.2.2.2.2.1
theorem dm_z (h : IsDM σ) : IsWays σ 139 := h.2.2.2.2.2.2.2.2.2.2.2.2.2.2
end DM
def LRC (I : mI) (L : Ld) : Prop := I 21 3 = lP L ∧ I 21 4 = lW L ∧ I 21 6 = lD L ∧ I 21 7 = lTv L ∧ (∀ i : Nat, (i : Int) < lP L → I 23 i = lG L i) ∧ (∀ k : Nat, (k : Int) < lD L → I 25 k = lK L k) ∧ ∀ x, x < lQ L → ∀ s, s < 4 → nbC I 21 x s = nbL L x s
theorem LRC.fr {I J : mI} {L : Ld} (h : LRC I L) (hf : ∀ r, 20 < r → r < 28 → J r = I r) : LRC J L := by
  obtain ⟨h1, h2, h3, h4, h5, h6, h7⟩ := h
  refine ⟨by rw [hf 21 (by decide) (by decide)]; exact h1, by rw [hf 21 (by decide) (by decide)]; exact h2, by rw [hf 21 (by decide) (by decide)]; exact h3, by rw [hf 21 (by decide) (by decide)]; exact h4, fun i hi => by rw [hf 23 (by decide) (by decide)]; exact h5 i hi, fun i hi => by rw [hf 25 (by decide) (by decide)]; exact h6 i hi, fun x hx s hs => ?_⟩
  rw [← h7 x hx s hs]
  show J 27 _ = I 27 _
  rw [hf 27 (by decide) (by decide)]
theorem lrc_g {I : mI} {L : Ld} {x : Int} (h : LRC I L) (hL : LdOk L) (hx : 0 ≤ x ∧ x < lP L) : rat I (21 + 1) 36 x = lG L x := by
  have := lp_rng hL
  rw [rat_nat (k := x.toNat) (by omega) (by omega)]
  have := h.2.2.2.2.1 x.toNat (by omega)
  rw [show ((x.toNat : Nat) : Int) = x by omega] at this
  exact this
theorem lrc_k {I : mI} {L : Ld} {d : Int} (h : LRC I L) (hL : LdOk L) (hx : 0 ≤ d ∧ d < lD L) : rat I (21 + 3) 4 d = lK L d := by
  have := hL.2.2.1
  rw [rat_nat (k := d.toNat) (by omega) (by omega)]
  have := h.2.2.2.2.2.1 d.toNat (by omega)
  rw [show ((d.toNat : Nat) : Int) = d by omega] at this
  exact this
def FRC (I : mI) (f : Nat) (L : Ld) (F : Fs) : Prop := I f 2 = fW F ∧ I f 3 = fH F ∧ (∀ d x, 0 ≤ d → d < lD L → 0 ≤ x → x < lP L → tel I f 21 d x = fT F (36 * d + x)) ∧ ∀ t : Nat, (t : Int) < lTv L → nrmT (tget I (f + 4 + t)) = fV F t ∧ TvOk (lP L) (lD L) (tget I (f + 4 + t))
theorem FRC.fr {I J : mI} {f : Nat} {L : Ld} {F : Fs} (h : FRC I f L F) (hL : LdOk L) (hf : ∀ r, f ≤ r → r < f + 8 → J r = I r) (hg : J 23 = I 23) : FRC J f L F := by
  obtain ⟨h1, h2, h3, h4⟩ := h
  refine ⟨by rw [hf f (by omega) (by omega)]; exact h1, by rw [hf f (by omega) (by omega)]; exact h2, fun d x a b c e => ?_, fun t ht => ?_⟩
  · rw [← h3 d x a b c e]
    exact tel_fr (hf _ (by omega) (by omega)) hg
  · have e : tget J (f + 4 + t) = tget I (f + 4 + t) := by
      have := hL.2.2.2.1
      simp only [tget]
      rw [hf (f + 4 + t) (by omega) (by omega)]
    rw [e]
    exact h4 t ht
theorem frc_tak {I : mI} {f : Nat} {L : Ld} {F : Fs} {d x : Int} (h : FRC I f L F) (hl : LRC I L) (hL : LdOk L) (hd : 0 ≤ d ∧ d < lD L) (hx : 0 ≤ x ∧ x < lP L) : tak I f 21 d x = takv (lK L d) (fT F (36 * d + x)) := by
  unfold tak
  rw [h.2.2.1 d x hd.1 hd.2 hx.1 hx.2, lrc_k hl hL hd]
/-- text, land, now, kept, heard, and how many are undone -/
def RC (I : mI) (S : Sx) : Prop := TXt I (sC S) (sLn S) ∧ LRC I (sL S) ∧ FRC I 28 (sL S) (sF S) ∧ I 102 1 = ((sK S).1 : Int) ∧ (∀ k, k < (sK S).1 → FRC I (104 + 8 * k) (sL S) ((sK S).2 k)) ∧ I 0 8 = ((sH S).1 : Int) ∧ (∀ k, k < (sH S).1 → I 121 k = (sH S).2.1 k ∧ I 123 k = (sH S).2.2 k) ∧ I 36 1 = ((sU S).1 : Int)
/-- the undone ones: the shelf's forests stand in some order -/
def UpC (σ : List mC) (I : mI) (S : Sx) : Prop := ∃ q : Nat → Nat, (∀ k, k < 8 → q k < 8) ∧ (∀ j k, j < 8 → k < 8 → q j = q k → j = k) ∧ IsShelf σ 36 [some (38 + 8 * q 0), some (38 + 8 * q 1), some (38 + 8 * q 2), some (38 + 8 * q 3), some (38 + 8 * q 4), some (38 + 8 * q 5), some (38 + 8 * q 6), some (38 + 8 * q 7)] ∧ ∀ k, k < (sU S).1 → FRC I (38 + 8 * q k) (sL S) ((sU S).2 k)
def CS (σ : List mC) (I : mI) (S : Sx) : Prop := Nrm I ∧ IsDM σ ∧ UpC σ I S ∧ RC I S
/-- what a call of the class may leave behind -/
def Out (σ : List mC) (I : mI) (S : Sx) (x : Int) : Option mV → mH → Prop := fun v h => v = some (mi x) ∧ ∃ (σ' : List mC) (K : mI), h = (σ', K) ∧ (∀ r, 144 ≤ r → K r = I r) ∧ (∀ k, 144 ≤ k → σ'[k]? = σ[k]?) ∧ σ'.map msz = σ.map msz ∧ CS σ' K S
/-- nothing that stays is changed -/
def FrQ (I K : mI) : Prop := ∀ r, (r < 3 ∨ (20 < r ∧ r < 124) ∨ 143 < r) → K r = I r
theorem frq_rf {I : mI} : FrQ I I := fun _ _ => rfl
theorem frq_tr {I J K : mI} (a : FrQ I J) (b : FrQ J K) : FrQ I K := fun r h => (b r h).trans (a r h)
theorem RC.fr {I K : mI} {S : Sx} (h : RC I S) (hL : LdOk (sL S)) (h2 : (sK S).1 ≤ 2) (hf : FrQ I K) : RC K S := by
  obtain ⟨a1, a2, a3, a4, a5, a6, a7, a8⟩ := h
  refine ⟨a1.fr (hf 1 (by omega)) (hf 2 (by omega)), a2.fr (fun r p q => hf r (by omega)), a3.fr hL (fun r p q => hf r (by omega)) (hf 23 (by omega)), by rw [hf 102 (by omega)]; exact a4, fun k hk => (a5 k hk).fr hL (fun r p q => hf r (by omega)) (hf 23 (by omega)), by rw [hf 0 (by omega)]; exact a6, fun k hk => by rw [hf 121 (by omega), hf 123 (by omega)]; exact a7 k hk, by rw [hf 36 (by omega)]; exact a8⟩
theorem UpC.fr {σ : List mC} {I K : mI} {S : Sx} (h : UpC σ I S) (hL : LdOk (sL S)) (h8 : (sU S).1 ≤ 8) (hf : FrQ I K) : UpC σ K S := by
  obtain ⟨q, h1, h2, h3, h4⟩ := h
  refine ⟨q, h1, h2, h3, fun k hk => (h4 k hk).fr hL (fun r p z => hf r ?_) (hf 23 (by omega))⟩
  have := h1 k (by omega)
  omega
theorem out_q {σ : List mC} {I K : mI} {S : Sx} {B x : Int} (h : CS σ I S) (hS : SxOk B S) (hK : Nrm K) (hf : FrQ I K) : Out σ I S x (some (mi x)) (σ, K) :=
  ⟨rfl, σ, K, rfl, fun r hr => hf r (by omega), fun _ _ => rfl, rfl, hK, h.2.1, h.2.2.1.fr hS.1 hS.2.2.1 hf, h.2.2.2.fr hS.1 hS.2.2.2.2.1 hf⟩
theorem fr_tset {I : mI} {r : Nat} {t : Tv} (h : 124 ≤ r ∧ r ≤ 143) : FrQ I (tset I r t) := by
  intro r' hr'
  funext k
  exact tset_ne (by omega)
/-- learning the ways by a drum -/
theorem k_lrn {σ : List mC} {I : mI} {w f : Nat} {L : Ld} {F : Fs} {d g : Int} (hI : Nrm I) (hw : IsWays σ w) (hl : IsLand σ 21) (hf : IsForest σ f) (hL : LdOk L) (hLR : LRC I L) (hF : FRC I f L F) (hd : 0 ≤ d ∧ d < lD L) (hg : 0 ≤ g ∧ g < lP L) (hwl : 28 ≤ w) (hwf : w + 5 ≤ f ∨ f + 8 ≤ w) : mMt mX7_learnByDrum [mr w, mr 21, mr f, mi d, mi g] (σ, I) (fun v h => v = none ∧ ∃ J, h = (σ, J) ∧ Nrm J ∧ (∀ r, r ≠ w + 1 + 1 → r ≠ w + 3 + 1 → J r = I r) ∧ Knows J w (lQ L) (nbL L) (ent L (fT F) (fW F) d) g.toNat) := by
  have hP := lq_rng hL
  have hPe := lq_eq hL
  have hDr := hL.2.2.1
  have hnb : ∀ x, x < lQ L → ∀ s, s < 4 → nbC I 21 x s = -4 ∨ (0 ≤ nbC I 21 x s ∧ nbC I 21 x s < lQ L) := fun x hx s hs => by rw [hLR.2.2.2.2.2.2 x hx s hs]; exact nbl_rng hL x hx s hs
  have h := @k_learnD σ I w 21 f (lQ L) g.toNat d hI hw hl hf hP.2 (by rw [hPe]; exact hLR.1) (by omega) (by omega) hnb (by omega) hwf
  rw [show ((g.toNat : Nat) : Int) = g by omega] at h
  refine h.im ?_
  rintro v h ⟨rfl, J, rfl, hJ, hfr, he, hD⟩
  have ee : ∀ x, x < lQ L → hrs (tak I f 21 d (x : Int)) (I f 2) = ent L (fT F) (fW F) d x := fun x hx => by
    rw [frc_tak hF hLR hL hd (by omega), hF.1]; rfl
  refine ⟨rfl, J, rfl, hJ, hfr, fun x hx => (he x hx).trans (ee x hx), fun x hx => ?_⟩
  refine hD _ ?_ x hx
  have hb := @dst_bell (lQ L) (nbL L) (ent L (fT F) (fW F) d) g.toNat (wfg_e hL)
  have h2 := bell_congr (g := g.toNat) (nbl_rng hL) (fun y hy => (ee y hy).symm) hb
  refine ⟨h2.1, h2.2.1, fun x hx hn s hs => ?_, fun x hx hn => ?_⟩
  · have := h2.2.2.1 x hx hn s hs
    rw [show cst (nbC I 21) (fun p => hrs (tak I f 21 d ((p : Nat) : Int)) (I f 2)) (dst (lQ L) (nbL L) (ent L (fT F) (fW F) d) g.toNat) x s = cst (nbL L) (fun p => hrs (tak I f 21 d ((p : Nat) : Int)) (I f 2)) (dst (lQ L) (nbL L) (ent L (fT F) (fW F) d) g.toNat) x s by unfold cst; rw [hLR.2.2.2.2.2.2 x hx s hs]]
    exact this
  · rcases h2.2.2.2 x hx hn with q | ⟨s, hs, q⟩
    · exact Or.inl q
    · refine Or.inr ⟨s, hs, ?_⟩
      rw [show cst (nbC I 21) (fun p => hrs (tak I f 21 d ((p : Nat) : Int)) (I f 2)) (dst (lQ L) (nbL L) (ent L (fT F) (fW F) d) g.toNat) x s = cst (nbL L) (fun p => hrs (tak I f 21 d ((p : Nat) : Int)) (I f 2)) (dst (lQ L) (nbL L) (ent L (fT F) (fW F) d) g.toNat) x s by unfold cst; rw [hLR.2.2.2.2.2.2 x hx s hs]]
      exact q
theorem k_lrnT {σ : List mC} {I : mI} {w : Nat} {L : Ld} {wet g : Int} (hI : Nrm I) (hw : IsWays σ w) (hl : IsLand σ 21) (hL : LdOk L) (hLR : LRC I L) (hwt : -2147483648 ≤ wet ∧ wet < 2147483648) (hg : 0 ≤ g ∧ g < lP L) (hwl : 28 ≤ w) : mMt mX7_learnInTruth [mr w, mr 21, mi wet, mi g] (σ, I) (fun v h => v = none ∧ ∃ J, h = (σ, J) ∧ Nrm J ∧ (∀ r, r ≠ w + 1 + 1 → r ≠ w + 3 + 1 → J r = I r) ∧ Knows J w (lQ L) (nbL L) (entT L wet) g.toNat) := by
  have hP := lq_rng hL
  have hPe := lq_eq hL
  have hnb : ∀ x, x < lQ L → ∀ s, s < 4 → nbC I 21 x s = -4 ∨ (0 ≤ nbC I 21 x s ∧ nbC I 21 x s < lQ L) := fun x hx s hs => by rw [hLR.2.2.2.2.2.2 x hx s hs]; exact nbl_rng hL x hx s hs
  have h := @k_learnT σ I w 21 (lQ L) g.toNat wet hI hw hl hP.2 (by rw [hPe]; exact hLR.1) (by omega) hwt hnb (by omega)
  rw [show ((g.toNat : Nat) : Int) = g by omega] at h
  refine h.im ?_
  rintro v h ⟨rfl, J, rfl, hJ, hfr, he, hD⟩
  have ee : ∀ x, x < lQ L → hrs (rat I (21 + 1) 36 (x : Int)) wet = entT L wet x := fun x hx => by
    rw [lrc_g hLR hL (by omega)]; rfl
  refine ⟨rfl, J, rfl, hJ, hfr, fun x hx => (he x hx).trans (ee x hx), fun x hx => ?_⟩
  refine hD _ ?_ x hx
  have hb := @dst_bell (lQ L) (nbL L) (entT L wet) g.toNat (wfg_t hL)
  have h2 := bell_congr (g := g.toNat) (nbl_rng hL) (fun y hy => (ee y hy).symm) hb
  refine ⟨h2.1, h2.2.1, fun x hx hn s hs => ?_, fun x hx hn => ?_⟩
  · have := h2.2.2.1 x hx hn s hs
    rw [show cst (nbC I 21) (fun p => hrs (rat I (21 + 1) 36 ((p : Nat) : Int)) wet) (dst (lQ L) (nbL L) (entT L wet) g.toNat) x s = cst (nbL L) (fun p => hrs (rat I (21 + 1) 36 ((p : Nat) : Int)) wet) (dst (lQ L) (nbL L) (entT L wet) g.toNat) x s by unfold cst; rw [hLR.2.2.2.2.2.2 x hx s hs]]
    exact this
  · rcases h2.2.2.2 x hx hn with q | ⟨s, hs, q⟩
    · exact Or.inl q
    · refine Or.inr ⟨s, hs, ?_⟩
      rw [show cst (nbC I 21) (fun p => hrs (rat I (21 + 1) 36 ((p : Nat) : Int)) wet) (dst (lQ L) (nbL L) (entT L wet) g.toNat) x s = cst (nbL L) (fun p => hrs (rat I (21 + 1) 36 ((p : Nat) : Int)) wet) (dst (lQ L) (nbL L) (entT L wet) g.toNat) x s by unfold cst; rw [hLR.2.2.2.2.2.2 x hx s hs]]
      exact q
/-- asking the ways -/
theorem knows_a {I : mI} {w P g : Nat} {nb : Nat → Nat → Int} {e : Nat → Int} (h : Knows I w P nb e g) (hw : Wfg P nb e) : ∀ y, y < P → 0 ≤ aC I w y ∧ aC I w y ≤ 1000000 := fun y hy => by rw [h.2 y hy]; exact (dst_bell hw).1 y hy
theorem k_hrF {σ : List mC} {I : mI} {w P g : Nat} {nb : Nat → Nat → Int} {e : Nat → Int} {x : Int} (hw : IsWays σ w) (hI : Nrm I) (h : Knows I w P nb e g) (hP : P ≤ 36) (hx : 0 ≤ x ∧ x < P) : mCt mX7_hoursFrom [mr w, mi x] (σ, I) (some (mi (fin (dst P nb e g x.toNat)))) (σ, I) := by
  have k := @k_hoursFrom σ I w x.toNat hw hI (by omega)
  rw [show ((x.toNat : Nat) : Int) = x by omega, h.2 x.toNat (by omega)] at k
  exact k
theorem k_fsF {σ : List mC} {I : mI} {w g : Nat} {L : Ld} {e : Nat → Int} {x : Int} (hw : IsWays σ w) (hl : IsLand σ 21) (hI : Nrm I) (hL : LdOk L) (hLR : LRC I L) (h : Knows I w (lQ L) (nbL L) e g) (hwf : Wfg (lQ L) (nbL L) e) (hx : 0 ≤ x ∧ x < lP L) : mCt mX7_firstFrom [mr w, mr 21, mi x] (σ, I) (some (mi (hop (lQ L) (nbL L) e g x.toNat))) (σ, I) := by
  have hP := lq_rng hL
  have hPe := lq_eq hL
  have hnb : ∀ y, y < lQ L → ∀ s, s < 4 → nbC I 21 y s = nbL L y s := hLR.2.2.2.2.2.2
  have hwC : Wfg (lQ L) (nbC I 21) (eC I w) := ⟨fun y hy s hs => by rw [hnb y hy s hs]; exact hwf.1 y hy s hs, fun y hy => by rw [h.1 y hy]; exact hwf.2 y hy⟩
  have k := @k_firstFrom σ I w 21 (lQ L) x.toNat hw hl hI hP.2 hwC (knows_a h hwf) (by omega)
  rw [show ((x.toNat : Nat) : Int) = x by omega] at k
  have e1 : (if aC I w x.toNat = 0 then -4 else (fo (nbC I 21) (eC I w) (aC I w) x.toNat 4).1) = hop (lQ L) (nbL L) e g x.toNat := by
    unfold hop
    rw [h.2 x.toNat (by omega)]
    split
    · rfl
    · rw [fo_congr (nb := nbL L) (nb' := nbC I 21) (e := e) (e' := eC I w) (a := dst (lQ L) (nbL L) e g) (a' := aC I w) hwf.1 hnb h.1 h.2 (by omega : x.toNat < lQ L) 4 (by decide)]
  rw [e1] at k
  exact k
