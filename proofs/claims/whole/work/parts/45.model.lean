/-! ===== the reference's heap and what it stands for ===== -/
def IsMd (σ : List mC) : Prop := σ[144]? = some (.inl (9, [none, none, some (some 145), none, some (some 146), none, some (some 147), some (some 148), some (some 149), none, some (some 150), none, some (some 151), none, some (some 152), none, none, none, some (some 153), none, some (some 154), some (some 155), none, some (some 156), some (some 157), some (some 158), none, none, none, some (some 159)])) ∧ σ[145]? = some (.inr (.inl 36)) ∧ σ[146]? = some (.inr (.inl 4)) ∧ σ[147]? = some (.inr (.inl 170)) ∧ σ[148]? = some (.inr (.inl 170)) ∧ σ[149]? = some (.inr (.inl 1360)) ∧ σ[150]? = some (.inr (.inl 340)) ∧ σ[151]? = some (.inr (.inl 16)) ∧ σ[152]? = some (.inr (.inl 200)) ∧ σ[153]? = some (.inr (.inl 36)) ∧ σ[154]? = some (.inr (.inl 4)) ∧ σ[155]? = some (.inr (.inl 144)) ∧ σ[156]? = some (.inr (.inl 4)) ∧ σ[157]? = some (.inr (.inl 4)) ∧ σ[158]? = some (.inr (.inl 4)) ∧ σ[159]? = some (.inr (.inl 36))
def LRM (I : mI) (L : Ld) : Prop := I 144 0 = lR L ∧ I 144 1 = lW L ∧ I 144 3 = lD L ∧ I 144 5 = I 144 5 ∧ (∀ i : Nat, (i : Int) < lP L → I 145 i = lG L i) ∧ ∀ k : Nat, (k : Int) < lD L → I 146 k = lK L k
theorem LRM.fr {I J : mI} {L : Ld} (h : LRM I L) (h0 : J 144 0 = I 144 0) (h1 : J 144 1 = I 144 1) (h3 : J 144 3 = I 144 3) (h5 : J 144 5 = I 144 5) (hg : J 145 = I 145) (hk : J 146 = I 146) : LRM J L := ⟨h0.trans h.1, h1.trans h.2.1, h3.trans h.2.2.1, rfl, fun i hi => by rw [hg]; exact h.2.2.2.2.1 i hi, fun k hk' => by rw [hk]; exact h.2.2.2.2.2 k hk'⟩
theorem lrm_g {I : mI} {L : Ld} {x : Int} (h : LRM I L) (hx : 0 ≤ x ∧ x < lP L) : I 145 x.toNat = lG L x := by
  rw [h.2.2.2.2.1 x.toNat (by omega), show ((x.toNat : Nat) : Int) = x by omega]
theorem lrm_k {I : mI} {L : Ld} {d : Int} (h : LRM I L) (hx : 0 ≤ d ∧ d < lD L) : I 146 d.toNat = lK L d := by
  rw [h.2.2.2.2.2 d.toNat (by omega), show ((d.toNat : Nat) : Int) = d by omega]
/-- a traveller's six numbers in a state that starts at o -/
def tvM (I : mI) (a o t : Nat) : Tv := (I a (o + 146 + t), I a (o + 150 + t), I a (o + 154 + t), I a (o + 158 + t), I a (o + 162 + t), I a (o + 166 + t))
def FRM (I : mI) (a o : Nat) (L : Ld) (F : Fs) : Prop := I a o = fW F ∧ I a (o + 1) = fH F ∧ (∀ d x, 0 ≤ d → d < lD L → 0 ≤ x → x < lP L → I a (o + 2 + (36 * d + x).toNat) = fT F (36 * d + x)) ∧ ∀ t : Nat, (t : Int) < lTv L → tvM I a o t = fV F t
theorem FRM.fr {I J : mI} {a o : Nat} {L : Ld} {F : Fs} (h : FRM I a o L F) (hL : LdOk L) (hf : ∀ k, o ≤ k → k < o + 170 → J a k = I a k) : FRM J a o L F := by
  have hdr := hL.2.2.1
  have hpr := lp_rng hL
  have hnt := hL.2.2.2.1
  refine ⟨by rw [hf o (by omega) (by omega)]; exact h.1, by rw [hf (o + 1) (by omega) (by omega)]; exact h.2.1, fun d x p q r s => by rw [hf _ (by omega) (by omega)]; exact h.2.2.1 d x p q r s, fun t ht => ?_⟩
  rw [← h.2.2.2 t ht]
  unfold tvM
  rw [hf (o + 146 + t) (by omega) (by omega), hf (o + 150 + t) (by omega) (by omega), hf (o + 154 + t) (by omega) (by omega), hf (o + 158 + t) (by omega) (by omega), hf (o + 162 + t) (by omega) (by omega), hf (o + 166 + t) (by omega) (by omega)]
/-- the same state elsewhere -/
theorem FRM.at {I J : mI} {a o b p : Nat} {L : Ld} {F : Fs} (h : FRM I a o L F) (hL : LdOk L) (hf : ∀ k, k < 170 → J b (p + k) = I a (o + k)) : FRM J b p L F := by
  have hdr := hL.2.2.1
  have hpr := lp_rng hL
  have hnt := hL.2.2.2.1
  refine ⟨by have := hf 0 (by decide); rw [Nat.add_zero, Nat.add_zero] at this; rw [this]; exact h.1, by rw [hf 1 (by decide)]; exact h.2.1, fun d x p1 q r s => ?_, fun t ht => ?_⟩
  · rw [Nat.add_assoc, hf (2 + (36 * d + x).toNat) (by omega), ← Nat.add_assoc]
    exact h.2.2.1 d x p1 q r s
  · rw [← h.2.2.2 t ht]
    unfold tvM
    rw [Nat.add_assoc p, hf (146 + t) (by omega), Nat.add_assoc p, hf (150 + t) (by omega), Nat.add_assoc p, hf (154 + t) (by omega), Nat.add_assoc p, hf (158 + t) (by omega), Nat.add_assoc p, hf (162 + t) (by omega), Nat.add_assoc p, hf (166 + t) (by omega)]
    simp only [Nat.add_assoc]
/-- all of it but what is scratch -/
def RM (I : mI) (S : Sx) : Prop := I 144 15 = sLn S ∧ (∀ k : Nat, (k : Int) < sLn S → I 152 k = sC S k) ∧ (∀ i : Int, ¬ (0 ≤ i ∧ i < sLn S) → sC S i = 0) ∧ (∀ i : Int, -2147483648 ≤ sC S i ∧ sC S i < 2147483648) ∧ LRM I (sL S) ∧ FRM I 147 0 (sL S) (sF S) ∧ I 144 9 = ((sU S).1 : Int) ∧ (∀ k, k < (sU S).1 → FRM I 149 (170 * k) (sL S) ((sU S).2 k)) ∧ I 144 11 = ((sK S).1 : Int) ∧ (∀ k, k < (sK S).1 → FRM I 150 (170 * k) (sL S) ((sK S).2 k)) ∧ I 144 13 = ((sH S).1 : Int) ∧ (∀ k, k < (sH S).1 → I 151 (2 * k) = (sH S).2.1 k ∧ I 151 (2 * k + 1) = (sH S).2.2 k) ∧ I 144 5 = lTv (sL S)
def MS (σ : List mC) (I : mI) (S : Sx) : Prop := Nrm I ∧ IsMd σ ∧ RM I S
/-- what a call of the reference may leave behind -/
def OutM (σ : List mC) (I : mI) (S : Sx) (x : Int) : Option mV → mH → Prop := fun v h => v = some (mi x) ∧ ∃ K : mI, h = (σ, K) ∧ (∀ r, r < 144 → K r = I r) ∧ MS σ K S
/-- scratch: aside, what was read, away -/
def FrM (I K : mI) : Prop := (∀ r, r ≠ 144 → r ≠ 148 → r < 153 → K r = I r) ∧ ∀ k, k < 16 → K 144 k = I 144 k
theorem frm_rf {I : mI} : FrM I I := ⟨fun _ _ _ _ => rfl, fun _ _ => rfl⟩
theorem frm_tr {I J K : mI} (a : FrM I J) (b : FrM J K) : FrM I K := ⟨fun r p q s => (b.1 r p q s).trans (a.1 r p q s), fun k hk => (b.2 k hk).trans (a.2 k hk)⟩
theorem LRM.frm {I K : mI} {L : Ld} (h : LRM I L) (hf : FrM I K) : LRM K L := h.fr (hf.2 0 (by decide)) (hf.2 1 (by decide)) (hf.2 3 (by decide)) (hf.2 5 (by decide)) (hf.1 145 (by decide) (by decide) (by decide)) (hf.1 146 (by decide) (by decide) (by decide))
theorem FRM.frm {I K : mI} {a o : Nat} {L : Ld} {F : Fs} (h : FRM I a o L F) (hL : LdOk L) (hf : FrM I K) (h1 : a ≠ 144) (h2 : a ≠ 148) (h3 : a < 153) : FRM K a o L F := h.fr hL (fun k _ _ => by rw [hf.1 a h1 h2 h3])
theorem RM.fr {I K : mI} {S : Sx} (h : RM I S) (hL : LdOk (sL S)) (hf : FrM I K) : RM K S := by
  obtain ⟨a1, a2, a3, a4, a5, a6, a7, a8, a9, b1, b2, b3, b4⟩ := h
  refine ⟨by rw [hf.2 15 (by decide)]; exact a1, fun k hk => by rw [hf.1 152 (by decide) (by decide) (by decide)]; exact a2 k hk, a3, a4, a5.frm hf, a6.frm hL hf (by decide) (by decide) (by decide), by rw [hf.2 9 (by decide)]; exact a7, fun k hk => (a8 k hk).frm hL hf (by decide) (by decide) (by decide), by rw [hf.2 11 (by decide)]; exact a9, fun k hk => (b1 k hk).frm hL hf (by decide) (by decide) (by decide), by rw [hf.2 13 (by decide)]; exact b2, fun k hk => by rw [hf.1 151 (by decide) (by decide) (by decide)]; exact b3 k hk, by rw [hf.2 5 (by decide)]; exact b4⟩
theorem outm_q {σ : List mC} {I K : mI} {S : Sx} {B x : Int} (h : MS σ I S) (hS : SxOk B S) (hK : Nrm K) (hf : FrM I K) : OutM σ I S x (some (mi x)) (σ, K) := ⟨rfl, K, rfl, fun r hr => hf.1 r (by omega) (by omega) (by omega), hK, h.2.1, h.2.2.fr hS.1 hf⟩
/-- a land with at least one traveller: the reference looks ahead from slot 0 also where there is none -/
def ld1 (L : Ld) : Ld := (lR L, lW L, lD L, (if lTv L = 0 then 1 else lTv L), lG L, lK L)
theorem ld1_ok {L : Ld} (h : LdOk L) : LdOk (ld1 L) := ⟨h.1, h.2.1, h.2.2.1, by
  have h4 := h.2.2.2.1
  show 0 ≤ (if lTv L = 0 then 1 else lTv L) ∧ (if lTv L = 0 then 1 else lTv L) ≤ 4
  split <;> omega, h.2.2.2.2⟩
theorem ld1_lrm {I : mI} {L : Ld} (h : LRM I L) : LRM I (ld1 L) := h
theorem ld1_ans {L : Ld} {T : Int → Int} {w s : Int} {t : Tv} : ansU (ld1 L) T w s t = ansU L T w s t := rfl
