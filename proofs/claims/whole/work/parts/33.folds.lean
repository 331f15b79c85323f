/-! ===== counting, looking for the best, bits, purely ===== -/
def allB (p : Nat → Bool) : Nat → Bool
  | 0 => true
  | n + 1 => allB p n && p n
theorem allB_f {p : Nat → Bool} {n k : Nat} (hk : k < n) (h : p k = false) : allB p n = false := by
  induction n with
  | zero => omega
  | succ n ih =>
    simp only [allB]
    by_cases q : k = n
    · subst q; rw [h, Bool.and_false]
    · rw [ih (by omega), Bool.false_and]
def cntB (p : Nat → Bool) : Nat → Int
  | 0 => 0
  | n + 1 => cntB p n + (if p n = true then 1 else 0)
theorem cntB_rng (p : Nat → Bool) : ∀ n : Nat, 0 ≤ cntB p n ∧ cntB p n ≤ n := by
  intro n
  induction n with
  | zero => exact ⟨by simp [cntB], by simp [cntB]⟩
  | succ n ih => simp only [cntB]; split <;> omega
theorem cntB_congr {p q : Nat → Bool} : ∀ n : Nat, (∀ k, k < n → p k = q k) → cntB p n = cntB q n := by
  intro n
  induction n with
  | zero => intro _; rfl
  | succ n ih => intro h; simp only [cntB]; rw [ih (fun k hk => h k (by omega)), h n (by omega)]
theorem allB_congr {p q : Nat → Bool} : ∀ n : Nat, (∀ k, k < n → p k = q k) → allB p n = allB q n := by
  intro n
  induction n with
  | zero => intro _; rfl
  | succ n ih => intro h; simp only [allB]; rw [ih (fun k hk => h k (by omega)), h n (by omega)]
def lowB (p : Nat → Bool) : Nat → Int
  | 0 => -4
  | n + 1 => if lowB p n = -4 ∧ p n = true then (n : Int) else lowB p n
theorem lowB_rng (p : Nat → Bool) : ∀ n : Nat, lowB p n = -4 ∨ (0 ≤ lowB p n ∧ lowB p n < n) := by
  intro n
  induction n with
  | zero => exact Or.inl rfl
  | succ n ih => simp only [lowB]; split <;> omega
def bts (p : Nat → Bool) : Nat → Int
  | 0 => 0
  | n + 1 => if p n = true then mor (bts p n) (mshl 1 (n : Int)) else bts p n
theorem bts_congr {p q : Nat → Bool} : ∀ n : Nat, (∀ k, k < n → p k = q k) → bts p n = bts q n := by
  intro n
  induction n with
  | zero => intro _; rfl
  | succ n ih => intro h; simp only [bts]; rw [ih (fun k hk => h k (by omega)), h n (by omega)]
def bst (f : Nat → Int) (i0 : Int) : Nat → Int × Int
  | 0 => (-4, i0)
  | n + 1 => if f n ≠ -4 ∧ f n < (bst f i0 n).2 then ((n : Int), f n) else bst f i0 n
theorem bst_rng {f : Nat → Int} {i0 : Int} (hi : 0 ≤ i0 ∧ i0 ≤ 1000000) (hf : ∀ k, f k = -4 ∨ 0 ≤ f k) : ∀ n : Nat, ((bst f i0 n).1 = -4 ∨ (0 ≤ (bst f i0 n).1 ∧ (bst f i0 n).1 < n)) ∧ 0 ≤ (bst f i0 n).2 ∧ (bst f i0 n).2 ≤ 1000000 := by
  intro n
  induction n with
  | zero => exact ⟨Or.inl rfl, hi⟩
  | succ n ih =>
    simp only [bst]
    split
    · next q => refine ⟨Or.inr ⟨by simp only; omega, by simp only; omega⟩, ?_, ?_⟩ <;> simp only <;> rcases hf n with z | z <;> omega
    · exact ⟨by omega, ih.2⟩
theorem ansU_rng {L : Ld} {T : Int → Int} {w s : Int} {t : Tv} : ansU L T w s t = -4 ∨ (0 ≤ ansU L T w s t ∧ ansU L T w s t < 61) := by
  have := @untl_rng (sfx L T w t.2.2.1 t.2.1) s 61 0 t (by decide)
  unfold ansU
  omega
def mtT (f g : Tv → Tv) : Nat → Int → Tv → Tv → Int
  | 0, _, _, _ => -4
  | n + 1, h, t, u => if t.2.2.2.2.2 = 0 ∧ u.2.2.2.2.2 = 0 ∧ t.1 = u.1 then h else mtT f g n (h + 1) (f t) (g u)
theorem mtT_nrm {P nd : Int} {f g f' g' : Tv → Tv} (hf : ∀ t, TvOk P nd t → nrmT (f t) = f' (nrmT t)) (hg : ∀ t, TvOk P nd t → nrmT (g t) = g' (nrmT t)) (of : ∀ t, TvOk P nd t → TvOk P nd (f t)) (og : ∀ t, TvOk P nd t → TvOk P nd (g t)) : ∀ (n : Nat) (h : Int) (t u : Tv), TvOk P nd t → TvOk P nd u → mtT f g n h t u = mtT f' g' n h (nrmT t) (nrmT u) := by
  intro n
  induction n with
  | zero => intro h t u _ _; rfl
  | succ n ih =>
    intro h t u ht hu
    simp only [mtT]
    rw [← hf t ht, ← hg u hu, ih (h + 1) (f t) (g u) (of t ht) (og u hu)]
    rfl
/-- how many travellers are in that state; how many places all drums tell rightly -/
def manyS (L : Ld) (F : Fs) (s : Int) : Int := cntB (fun t => decide ((fV F t).2.2.2.1 = s)) (lTv L).toNat
def rightAt (L : Ld) (F : Fs) (x : Nat) : Bool := allB (fun d => decide (fT F (36 * (d : Int) + (x : Int)) = lG L (x : Int))) (lD L).toNat
def sureS (L : Ld) (F : Fs) : Int := cntB (rightAt L F) (lQ L)
def toldB (F : Fs) (H : Nat × (Nat → Int) × (Nat → Int)) (d : Int) : Bool := allB (fun k => decide (fT F (36 * d + H.2.1 k) = H.2.2 k)) H.1
/-- draws of a year -/
def drawS (z k : Int) : Int := ((7919 * z + 6151 * k + 1) * (7919 * z + 6151 * k + 1)) % 65521
theorem draw_rng (z k : Int) : 0 ≤ drawS z k ∧ drawS z k < 65521 := by
  unfold drawS
  exact ⟨Int.emod_nonneg _ (by decide), Int.emod_lt_of_pos _ (by decide)⟩
theorem mdl_rng {x n : Int} (hx : 0 ≤ x) : 0 ≤ mdl x n ∧ (0 < n → mdl x n < n) ∧ (¬ 0 < n → mdl x n = 0) := by
  unfold mdl
  split
  · next q => exact ⟨Int.emod_nonneg _ (by omega), fun _ => Int.emod_lt_of_pos _ q, fun z => absurd q z⟩
  · next q => exact ⟨Int.le_refl 0, fun z => absurd z q, fun _ => rfl⟩
def sendF (L : Ld) (F : Fs) (t x : Int) : Fs := if (0 ≤ t ∧ t < lTv L) ∧ (fV F t.toNat).2.2.2.1 ≠ 2 then setV F t.toNat (goToT (fV F t.toNat) x) else F
def stirF (L : Ld) (F : Fs) (w : Int) : Fs :=
  if w % 8 = 0 then setW F (w / 8 % 4) else if w % 8 = 1 then setTl F (36 * mdl (w / 8) (lD L) + mdl (w / 32) (lP L)) (w / 2048 % 4) else if w % 8 = 2 then sendF L F (mdl (w / 8) (lTv L)) (mdl (w / 32) (lP L)) else F
theorem sendF_ok {L : Ld} {B : Int} {F : Fs} {t x : Int} (h : FsOk L B F) (hx : 0 ≤ x ∧ x < lP L) : FsOk L B (sendF L F t x) := by
  unfold sendF
  split
  · next q => exact setV_ok h (goTo_ok (h.2.2.2 t.toNat (by omega)) hx)
  · exact h
theorem stirF_ok {L : Ld} {B : Int} {F : Fs} {w : Int} (hL : LdOk L) (h : FsOk L B F) (hw : 0 ≤ w ∧ w < 65521) : FsOk L B (stirF L F w) := by
  unfold stirF
  split
  · exact setW_ok h (by omega)
  · split
    · exact setTl_ok h (by omega)
    · split
      · exact sendF_ok h ⟨(mdl_rng (by omega)).1, (mdl_rng (by omega)).2.1 (by have := lp_rng hL; omega)⟩
      · exact h
noncomputable def yearS (L : Ld) (F : Fs) (z : Int) : Nat → Fs
  | 0 => F
  | k + 1 => hourF L (stirF L (yearS L F z k) (drawS z (k : Int)))
theorem yearS_ok {L : Ld} {B z : Int} {F : Fs} (hL : LdOk L) (h : FsOk L B F) : ∀ k : Nat, FsOk L (B + k) (yearS L F z k) := by
  intro k
  induction k with
  | zero => exact h.mono (by omega)
  | succ k ih => exact (hourF_ok hL (stirF_ok hL ih (draw_rng _ _))).mono (by omega)
/-- rainy hours: the chance's weight and where he is behind k hours -/
def rnT (f g : Tv → Tv) (x m : Int) (t : Tv) : Nat → Int × Tv
  | 0 => (1, t)
  | k + 1 => if mand (mshr m (k : Int)) 1 = 1 then ((rnT f g x m t k).1 * x, g (rnT f g x m t k).2) else ((rnT f g x m t k).1 * (10 - x), f (rnT f g x m t k).2)
def wgS (f g : Tv → Tv) (x m : Int) (t : Tv) (n : Nat) : Int := if (rnT f g x m t n).2.2.2.2.1 = 1 then (rnT f g x m t n).1 else 0
def sumN (f : Nat → Int) : Nat → Int
  | 0 => 0
  | n + 1 => sumN f n + f n
theorem sumN_le {f g : Nat → Int} : ∀ n : Nat, (∀ k, k < n → f k ≤ g k) → sumN f n ≤ sumN g n := by
  intro n
  induction n with
  | zero => intro _; exact Int.le_refl _
  | succ n ih =>
    intro h
    have a := ih (fun k hk => h k (by omega))
    have b := h n (by omega)
    simp only [sumN]
    omega
theorem sumN_mono {f : Nat → Int} (h : ∀ k, 0 ≤ f k) : ∀ (n m : Nat), n ≤ m → sumN f n ≤ sumN f m := by
  intro n m
  induction m with
  | zero => intro q; rw [show n = 0 by omega]; exact Int.le_refl _
  | succ m ih =>
    intro q
    by_cases z : n = m + 1
    · rw [z]; exact Int.le_refl _
    · have a := ih (by omega)
      have b := h m
      simp only [sumN]
      omega
theorem sumN_congr {f g : Nat → Int} : ∀ n : Nat, (∀ k, k < n → f k = g k) → sumN f n = sumN g n := by
  intro n
  induction n with
  | zero => intro _; rfl
  | succ n ih => intro h; simp only [sumN]; rw [ih (fun k hk => h k (by omega)), h n (by omega)]
theorem sumN_add {f : Nat → Int} {a : Nat} : ∀ b : Nat, sumN f (a + b) = sumN f a + sumN (fun k => f (a + k)) b := by
  intro b
  induction b with
  | zero => simp [sumN]
  | succ b ih => rw [show a + (b + 1) = (a + b) + 1 by omega]; simp only [sumN]; rw [ih]; omega
theorem sumN_mul {f : Nat → Int} {c : Int} : ∀ n : Nat, sumN (fun k => f k * c) n = sumN f n * c := by
  intro n
  induction n with
  | zero => simp [sumN]
  | succ n ih => simp only [sumN]; rw [ih, Int.add_mul]
/-- weights alone -/
def wpr (x : Int) (m : Nat) : Nat → Int
  | 0 => 1
  | k + 1 => if m / 2 ^ k % 2 = 1 then wpr x m k * x else wpr x m k * (10 - x)
theorem wpr_pos {x : Int} (hx : 0 ≤ x ∧ x ≤ 10) (m : Nat) : ∀ n : Nat, 0 ≤ wpr x m n ∧ wpr x m n ≤ 10 ^ n := by
  intro n
  induction n with
  | zero => exact ⟨by simp [wpr], by simp [wpr]⟩
  | succ n ih =>
    simp only [wpr]
    have e : (10 : Int) ^ (n + 1) = 10 ^ n * 10 := Int.pow_succ 10 n
    split
    · exact ⟨Int.mul_nonneg ih.1 hx.1, by rw [e]; exact Int.mul_le_mul ih.2 hx.2 hx.1 (by have := ih; omega)⟩
    · exact ⟨Int.mul_nonneg ih.1 (by omega), by rw [e]; exact Int.mul_le_mul ih.2 (by omega) (by omega) (by have := ih; omega)⟩
theorem wpr_shift {x : Int} {m n : Nat} : ∀ k : Nat, k ≤ n → wpr x (2 ^ n + m) k = wpr x m k := by
  intro k
  induction k with
  | zero => intro _; rfl
  | succ k ih =>
    intro hk
    simp only [wpr]
    rw [ih (by omega)]
    have e : (2 ^ n + m) / 2 ^ k % 2 = m / 2 ^ k % 2 := by
      have e1 : 2 ^ n = 2 ^ k * (2 * 2 ^ (n - (k + 1))) := by
        rw [← Nat.mul_assoc, ← Nat.pow_succ, ← Nat.pow_add]
        congr 1
        omega
      rw [e1, Nat.mul_add_div (Nat.two_pow_pos k)]
      omega
    rw [e]
theorem wpr_sum {x : Int} : ∀ n : Nat, sumN (fun m => wpr x m n) (2 ^ n) = 10 ^ n := by
  intro n
  induction n with
  | zero => simp [sumN, wpr]
  | succ n ih =>
    rw [show 2 ^ (n + 1) = 2 ^ n + 2 ^ n by rw [Nat.pow_succ]; omega, sumN_add]
    have e1 : sumN (fun m => wpr x m (n + 1)) (2 ^ n) = sumN (fun m => wpr x m n * (10 - x)) (2 ^ n) := by
      refine sumN_congr _ (fun k hk => ?_)
      simp only [wpr]
      rw [if_neg (by rw [Nat.div_eq_of_lt hk]; decide)]
    have e2 : sumN (fun k => wpr x (2 ^ n + k) (n + 1)) (2 ^ n) = sumN (fun m => wpr x m n * x) (2 ^ n) := by
      refine sumN_congr _ (fun k hk => ?_)
      simp only [wpr]
      rw [wpr_shift n (Nat.le_refl n), if_pos (by rw [Nat.add_div_left _ (Nat.two_pow_pos n), Nat.div_eq_of_lt hk])]
    rw [e1, e2, sumN_mul, sumN_mul, ih, Int.pow_succ]
    rw [Int.mul_sub]
    omega
theorem bit_eq : ∀ m : Fin 256, ∀ k : Fin 8, mand (mshr ((m.val : Nat) : Int) ((k.val : Nat) : Int)) 1 = ((m.val / 2 ^ k.val % 2 : Nat) : Int) := by decide +kernel
theorem rnT_w {f g : Tv → Tv} {x : Int} {m : Nat} {t : Tv} (hm : m < 256) : ∀ n : Nat, n ≤ 8 → (rnT f g x (m : Int) t n).1 = wpr x m n := by
  intro n
  induction n with
  | zero => intro _; rfl
  | succ n ih =>
    intro hn
    have e := bit_eq ⟨m, hm⟩ ⟨n, by omega⟩
    simp only at e
    simp only [rnT, wpr]
    rw [e]
    by_cases q : m / 2 ^ n % 2 = 1
    · rw [if_pos (by omega), if_pos q, ih (by omega)]
    · rw [if_neg (by omega), if_neg q, ih (by omega)]
theorem wgS_rng {f g : Tv → Tv} {x : Int} {m : Nat} {t : Tv} {n : Nat} (hx : 0 ≤ x ∧ x ≤ 10) (hm : m < 256) (hn : n ≤ 8) : 0 ≤ wgS f g x (m : Int) t n ∧ wgS f g x (m : Int) t n ≤ wpr x m n := by
  have h := wpr_pos hx m n
  unfold wgS
  rw [rnT_w hm n hn]
  split <;> omega
theorem wg_sum {f g : Tv → Tv} {x : Int} {t : Tv} {n M : Nat} (hx : 0 ≤ x ∧ x ≤ 10) (hn : n ≤ 8) (hM : M ≤ 2 ^ n) : 0 ≤ sumN (fun m => wgS f g x (m : Int) t n) M ∧ sumN (fun m => wgS f g x (m : Int) t n) M ≤ 10 ^ n := by
  have h8 : 2 ^ n ≤ 2 ^ 8 := Nat.pow_le_pow_right (by decide) hn
  have hlt : ∀ k, k < M → k < 256 := fun k hk => by have : 2 ^ 8 = 256 := by decide
                                                    omega
  constructor
  · have := @sumN_le (fun _ => 0) (fun m => wgS f g x (m : Int) t n) M (fun k hk => (wgS_rng hx (hlt k hk) hn).1)
    have e : ∀ j : Nat, sumN (fun _ => 0) j = 0 := by
      intro j
      induction j with
      | zero => rfl
      | succ j ih => simp only [sumN]; rw [ih]; rfl
    rw [e] at this
    exact this
  · refine Int.le_trans (sumN_le M (fun k hk => (wgS_rng hx (hlt k hk) hn).2)) ?_
    rw [← wpr_sum (x := x) n]
    exact sumN_mono (fun k => (wpr_pos hx k n).1) M (2 ^ n) hM
theorem rnT_nrm {P nd : Int} {f g f' g' : Tv → Tv} {x m : Int} (hf : ∀ t, TvOk P nd t → nrmT (f t) = f' (nrmT t)) (hg : ∀ t, TvOk P nd t → nrmT (g t) = g' (nrmT t)) (of : ∀ t, TvOk P nd t → TvOk P nd (f t)) (og : ∀ t, TvOk P nd t → TvOk P nd (g t)) {t : Tv} (ht : TvOk P nd t) : ∀ n : Nat, TvOk P nd (rnT f g x m t n).2 ∧ (rnT f' g' x m (nrmT t) n).1 = (rnT f g x m t n).1 ∧ (rnT f' g' x m (nrmT t) n).2 = nrmT (rnT f g x m t n).2 := by
  intro n
  induction n with
  | zero => exact ⟨ht, rfl, rfl⟩
  | succ n ih =>
    obtain ⟨a, b, c⟩ := ih
    simp only [rnT]
    split
    · exact ⟨og _ a, by simp only; rw [b], by simp only; rw [c, hg _ a]⟩
    · exact ⟨of _ a, by simp only; rw [b], by simp only; rw [c, hf _ a]⟩
/-- in lowest terms -/
def lwt (above below part : Int) : Int := (if part = 0 then above else below) / ((Nat.gcd above.toNat below.toNat : Nat) : Int)
