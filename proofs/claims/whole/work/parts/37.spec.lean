/-! ===== every call: its answer (a_) and what it leaves (z_) ===== -/
abbrev isP (S : Sx) (x : Int) : Prop := 0 ≤ x ∧ x < lP (sL S)
abbrev isD (S : Sx) (d : Int) : Prop := 0 ≤ d ∧ d < lD (sL S)
abbrev isT (S : Sx) (t : Int) : Prop := 0 ≤ t ∧ t < lTv (sL S)
abbrev tvS (S : Sx) (t : Int) : Tv := fV (sF S) t.toNat
abbrev tlS (S : Sx) (d x : Int) : Int := fT (sF S) (36 * d + x)
noncomputable abbrev anS (S : Sx) (s : Int) (t : Tv) : Int := ansU (sL S) (fT (sF S)) (fW (sF S)) s t
def putN (S : Sx) (F : Fs) : Sx := (S.1, sL S, F, S.2.2.2)
def putU (S : Sx) (F : Fs) : Sx := (S.1, sL S, F, pushF (sU S) (sF S), S.2.2.2.2)
def a_write (S : Sx) (x : Int) : Int := if 32 ≤ x ∧ x ≤ 126 then (if sLn S < 200 then sLn S + 1 else -3) else -1
def z_write (S : Sx) (x : Int) : Sx := if (32 ≤ x ∧ x ≤ 126) ∧ sLn S < 200 then ((iup (sC S) (sLn S) x, sLn S + 1), S.2) else S
def z_wipe (S : Sx) : Sx := ((fun _ => 0, 0), S.2)
def a_fault (S : Sx) : Int := (prs (sC S) (sLn S) 201 0 rd0).1
def a_lay (S : Sx) : Int := if layd (sC S) (sLn S) = true then rPl (rdS (sC S) (sLn S)) else -2
def z_lay (S : Sx) : Sx := if layd (sC S) (sLn S) = true then (S.1, ldR (rdS (sC S) (sLn S)), fsR (rdS (sC S) (sLn S)), (0, (sU S).2), (0, (sK S).2), (0, (sH S).2)) else S
def a_place (S : Sx) (x : Int) : Int := if isP S x then lG (sL S) x else -1
def a_drum (S : Sx) (d x w : Int) : Int := if isD S d ∧ isP S x then (if w = 0 then tlS S d x else if w = 1 then takv (lK (sL S) d) (tlS S d x) else if w = 2 then loud (tlS S d x) (fW (sF S)) else -1) else -1
def a_kind (S : Sx) (d : Int) : Int := if isD S d then lK (sL S) d else -1
def tvi (t : Tv) (w : Int) : Int := if w = 0 then t.1 else if w = 1 then t.2.1 else if w = 2 then t.2.2.1 else if w = 3 then t.2.2.2.1 else if w = 4 then t.2.2.2.2.1 else if w = 5 then t.2.2.2.2.2 else -1
def a_traveller (S : Sx) (t w : Int) : Int := if isT S t then tvi (tvS S t) w else -1
noncomputable def a_route (S : Sx) (d x y w : Int) : Int := if isD S d ∧ isP S x ∧ isP S y ∧ (0 ≤ w ∧ w ≤ 1) then (if w = 0 then fin (awD (sL S) (fT (sF S)) (fW (sF S)) d y x.toNat) else hpS (sL S) (fT (sF S)) (fW (sF S)) d y x) else -1
noncomputable def a_truth (S : Sx) (x y : Int) : Int := if isP S x ∧ isP S y then fin (awT (sL S) (fW (sF S)) y x.toNat) else -1
noncomputable def a_pass (S : Sx) (n : Int) : Int := if 1 ≤ n ∧ n ≤ 24 then fH (hoursF (sL S) n.toNat (sF S)) else -1
noncomputable def z_pass (S : Sx) (n : Int) : Sx := if 1 ≤ n ∧ n ≤ 24 then putU S (hoursF (sL S) n.toNat (sF S)) else S
def a_rain (S : Sx) (w : Int) : Int := if 0 ≤ w ∧ w ≤ 3 then fW (sF S) else -1
def z_rain (S : Sx) (w : Int) : Sx := if 0 ≤ w ∧ w ≤ 3 then putU S (setW (sF S) w) else S
def a_retune (S : Sx) (d x v : Int) : Int := if isD S d ∧ isP S x ∧ (0 ≤ v ∧ v ≤ 3) then tlS S d x else -1
def z_retune (S : Sx) (d x v : Int) : Sx := if isD S d ∧ isP S x ∧ (0 ≤ v ∧ v ≤ 3) then putU S (setTl (sF S) (36 * d + x) v) else S
def a_give (S : Sx) (t d : Int) : Int := if isT S t ∧ isD S d then (if (tvS S t).2.2.2.1 = 0 then (tvS S t).2.2.1 else -2) else -1
def z_give (S : Sx) (t d : Int) : Sx := if (isT S t ∧ isD S d) ∧ (tvS S t).2.2.2.1 = 0 then putU S (setV (sF S) t.toNat (sdr (tvS S t) d)) else S
def a_send (S : Sx) (t y : Int) : Int := if isT S t ∧ isP S y then (if (tvS S t).2.2.2.1 = 2 then -2 else (goToT (tvS S t) y).2.2.2.1) else -1
def z_send (S : Sx) (t y : Int) : Sx := if (isT S t ∧ isP S y) ∧ ¬ (tvS S t).2.2.2.1 = 2 then putU S (setV (sF S) t.toNat (goToT (tvS S t) y)) else S
def a_undo (S : Sx) : Int := if (sU S).1 = 0 then -2 else (((sU S).1 - 1 : Nat) : Int)
def z_undo (S : Sx) : Sx := if (sU S).1 = 0 then S else (S.1, sL S, (sU S).2 ((sU S).1 - 1), ((sU S).1 - 1, (sU S).2), S.2.2.2.2)
noncomputable def a_when (S : Sx) (s t : Int) : Int := if isT S t then anS S s (tvS S t) else -1
noncomputable def a_led (S : Sx) (d x y : Int) : Int := if isD S d ∧ isP S x ∧ isP S y then anS S 1 (ledT x y d) else -1
noncomputable def a_fastest (S : Sx) (t : Int) : Int := if isT S t then (if (tvS S t).2.2.2.1 = 0 then (bst (fun d => anS S 1 (sdr (tvS S t) (d : Int))) 1000000 (lD (sL S)).toNat).1 else -2) else -1
noncomputable def tunF (S : Sx) (t : Tv) (x : Nat) : Int := if tlS S t.2.2.1 (x : Int) = lG (sL S) (x : Int) then -4 else ansU (sL S) (iup (fT (sF S)) (36 * t.2.2.1 + (x : Int)) (lG (sL S) (x : Int))) (fW (sF S)) 1 t
noncomputable def tun0 (S : Sx) (t : Tv) : Int := if anS S 1 t = -4 then 1000000 else anS S 1 t
noncomputable def a_tune (S : Sx) (t : Int) : Int := if isT S t then (if (tvS S t).2.2.2.1 = 0 then (bst (tunF S (tvS S t)) (tun0 S (tvS S t)) (lQ (sL S))).1 else -2) else -1
noncomputable def sfS (S : Sx) (t : Tv) : Tv → Tv := sfx (sL S) (fT (sF S)) (fW (sF S)) t.2.2.1 t.2.1
noncomputable def a_meet (S : Sx) (t u : Int) : Int := if isT S t ∧ isT S u ∧ t ≠ u then mtT (sfS S (tvS S t)) (sfS S (tvS S u)) 61 0 (tvS S t) (tvS S u) else -1
def clB (S : Sx) (d e : Int) (x : Nat) : Bool := decide (tlS S d (x : Int) ≠ tlS S e (x : Int))
def a_clash (S : Sx) (d e w : Int) : Int := if isD S d ∧ isD S e ∧ d ≠ e ∧ (0 ≤ w ∧ w ≤ 1) then (if w = 0 then cntB (clB S d e) (lQ (sL S)) else lowB (clB S d e) (lQ (sL S))) else -1
noncomputable def trS (S : Sx) (x y : Int) : Int := fin (awT (sL S) (fW (sF S)) y x.toNat)
noncomputable def rgB (S : Sx) (x y : Int) (d : Nat) : Bool := decide (anS S 1 (ledT x y (d : Int)) ≠ -4 ∧ anS S 1 (ledT x y (d : Int)) ≤ trS S x y)
noncomputable def a_right (S : Sx) (x y : Int) : Int := if isP S x ∧ isP S y then (if trS S x y = -4 then 0 else bts (rgB S x y) (lD (sL S)).toNat) else -1
def a_hear (S : Sx) (x v : Int) : Int := if isP S x ∧ (0 ≤ v ∧ v ≤ 3) then (if 8 ≤ (sH S).1 then -3 else (((sH S).1 + 1 : Nat) : Int)) else -1
def z_hear (S : Sx) (x v : Int) : Sx := if (isP S x ∧ (0 ≤ v ∧ v ≤ 3)) ∧ (sH S).1 < 8 then (S.1, sL S, sF S, sU S, sK S, ((sH S).1 + 1, (fun k => if k = (sH S).1 then x else (sH S).2.1 k), fun k => if k = (sH S).1 then v else (sH S).2.2 k)) else S
def z_forget (S : Sx) : Sx := (S.1, sL S, sF S, sU S, sK S, (0, (sH S).2))
def a_which (S : Sx) : Int := bts (fun d => toldB (sF S) (sH S) (d : Int)) (lD (sL S)).toNat
noncomputable def snB (S : Sx) (t : Tv) (x : Int) (n : Nat) (d : Nat) : Bool := decide ((iter (sfx (sL S) (fT (sF S)) (fW (sF S)) (d : Int) t.2.1) n (sdr t (d : Int))).1 = x)
noncomputable def a_seen (S : Sx) (t x n : Int) : Int := if isT S t ∧ isP S x ∧ (0 ≤ n ∧ n ≤ 30) then bts (snB S (tvS S t) x n.toNat) (lD (sL S)).toNat else -1
noncomputable def wgX (S : Sx) (x : Int) (t : Tv) (n m : Nat) : Int := wgS (sfx (sL S) (fT (sF S)) (fW (sF S)) t.2.2.1 t.2.1) (sfx (sL S) (fT (sF S)) 3 t.2.2.1 t.2.1) x (m : Int) t n
noncomputable def a_rains (S : Sx) (t n x part : Int) : Int := if isT S t ∧ (0 ≤ n ∧ n ≤ 8) ∧ (0 ≤ x ∧ x ≤ 10) ∧ (0 ≤ part ∧ part ≤ 1) then lwt (sumN (wgX S x (tvS S t) n.toNat) (2 ^ n.toNat)) (10 ^ n.toNat) part else -1
noncomputable def a_year (S : Sx) (z n w : Int) : Int := if (0 ≤ z ∧ z ≤ 9999) ∧ (1 ≤ n ∧ n ≤ 60) ∧ (0 ≤ w ∧ w ≤ 1) then manyS (sL S) (yearS (sL S) (sF S) z n.toNat) (if w = 0 then 1 else 2) else -1
def a_keep (S : Sx) : Int := if (sK S).1 = 2 then -3 else (((sK S).1 + 1 : Nat) : Int)
def z_keep (S : Sx) : Sx := if (sK S).1 = 2 then S else (S.1, sL S, sF S, sU S, ((sK S).1 + 1, fun k => if k = (sK S).1 then sF S else (sK S).2 k), sH S)
def a_back (S : Sx) : Int := if (sK S).1 = 0 then -2 else (((sK S).1 - 1 : Nat) : Int)
def z_back (S : Sx) : Sx := if (sK S).1 = 0 then S else (S.1, sL S, (sK S).2 ((sK S).1 - 1), (0, (sU S).2), ((sK S).1 - 1, (sK S).2), sH S)
def a_count (S : Sx) (w : Int) : Int :=
  if w = 0 then lP (sL S) else if w = 1 then lW (sL S) else if w = 2 then lD (sL S) else if w = 3 then lTv (sL S) else if w = 4 then fW (sF S) else if w = 5 then fH (sF S) else if w = 6 then manyS (sL S) (sF S) 1 else if w = 7 then manyS (sL S) (sF S) 2 else if w = 8 then sureS (sL S) (sF S) else if w = 9 then ((sH S).1 : Int) else if w = 10 then ((sU S).1 : Int) else if w = 11 then ((sK S).1 : Int) else if w = 12 then sLn S else -1
/-! what is always so, stays so -/
theorem SxOk.mono {B C : Int} {S : Sx} (h : SxOk B S) (hB : B ≤ C) : SxOk C S := ⟨h.1, h.2.1.mono hB, h.2.2.1, fun k hk => (h.2.2.2.1 k hk).mono hB, h.2.2.2.2.1, fun k hk => (h.2.2.2.2.2.1 k hk).mono hB, h.2.2.2.2.2.2⟩
theorem ok_putU {B C : Int} {S : Sx} {F : Fs} (h : SxOk B S) (hB : B ≤ C) (hF : FsOk (sL S) C F) : SxOk C (putU S F) := by
  have h := h.mono hB
  have hp := push_ok h.2.2.1 h.2.2.2.1 h.2.1
  exact ⟨h.1, hF, hp.1, hp.2, h.2.2.2.2⟩
theorem ok_write {B x : Int} {S : Sx} (h : SxOk B S) : SxOk B (z_write S x) := by
  unfold z_write
  split
  · next q =>
    have hl := h.2.2.2.2.2.2.2.2
    exact ⟨h.1, h.2.1, h.2.2.1, h.2.2.2.1, h.2.2.2.2.1, h.2.2.2.2.2.1, h.2.2.2.2.2.2.1, h.2.2.2.2.2.2.2.1, ⟨by show 0 ≤ sLn S + 1; omega, by show sLn S + 1 ≤ 200; omega⟩⟩
  · exact h
theorem ok_wipe {B : Int} {S : Sx} (h : SxOk B S) : SxOk B (z_wipe S) := ⟨h.1, h.2.1, h.2.2.1, h.2.2.2.1, h.2.2.2.2.1, h.2.2.2.2.2.1, h.2.2.2.2.2.2.1, h.2.2.2.2.2.2.2.1, ⟨(by decide : (0 : Int) ≤ 0), (by decide : (0 : Int) ≤ 200)⟩⟩
theorem ok_lay {B : Int} {S : Sx} (h : SxOk B S) (hB : 0 ≤ B) : SxOk B (z_lay S) := by
  unfold z_lay
  split
  · next q =>
    have q := of_decide_eq_true q
    have hr : RdOk (rdS (sC S) (sLn S)) := prs_ok 201 0 rd0 rd0_ok
    exact ⟨ldR_ok hr q.2.1 q.2.2, (fsR_ok hr q.2.1 q.2.2).mono hB, Nat.zero_le 8, fun k hk => absurd hk (Nat.not_lt_zero k), Nat.zero_le 2, fun k hk => absurd hk (Nat.not_lt_zero k), Nat.zero_le 8, fun k hk => absurd hk (Nat.not_lt_zero k), h.2.2.2.2.2.2.2.2⟩
  · exact h
theorem ok_pass {B n : Int} {S : Sx} (h : SxOk B S) : SxOk (B + 24) (z_pass S n) := by
  unfold z_pass
  split
  · next q => exact ok_putU h (by omega) ((hoursF_ok h.1 h.2.1 n.toNat).mono (by omega))
  · exact h.mono (by omega)
theorem ok_rain {B w : Int} {S : Sx} (h : SxOk B S) : SxOk B (z_rain S w) := by
  unfold z_rain
  split
  · next q => exact ok_putU h (Int.le_refl B) (setW_ok h.2.1 q)
  · exact h
theorem ok_retune {B d x v : Int} {S : Sx} (h : SxOk B S) : SxOk B (z_retune S d x v) := by
  unfold z_retune
  split
  · next q => exact ok_putU h (Int.le_refl B) (setTl_ok h.2.1 q.2.2)
  · exact h
theorem ok_give {B t d : Int} {S : Sx} (h : SxOk B S) : SxOk B (z_give S t d) := by
  unfold z_give
  split
  · next q => exact ok_putU h (Int.le_refl B) (setV_ok h.2.1 (sdr_ok (h.2.1.2.2.2 t.toNat (by omega)) q.1.2))
  · exact h
theorem ok_send {B t y : Int} {S : Sx} (h : SxOk B S) : SxOk B (z_send S t y) := by
  unfold z_send
  split
  · next q => exact ok_putU h (Int.le_refl B) (setV_ok h.2.1 (goTo_ok (h.2.1.2.2.2 t.toNat (by omega)) q.1.2))
  · exact h
theorem ok_undo {B : Int} {S : Sx} (h : SxOk B S) : SxOk B (z_undo S) := by
  unfold z_undo
  split
  · exact h
  · next q =>
    have h8 := h.2.2.1
    exact ⟨h.1, h.2.2.2.1 _ (by omega), (by omega : (sU S).1 - 1 ≤ 8), fun k hk => h.2.2.2.1 k (by have hk : k < (sU S).1 - 1 := hk; omega), h.2.2.2.2⟩
theorem ok_hear {B x v : Int} {S : Sx} (h : SxOk B S) : SxOk B (z_hear S x v) := by
  unfold z_hear
  split
  · next q =>
    refine ⟨h.1, h.2.1, h.2.2.1, h.2.2.2.1, h.2.2.2.2.1, h.2.2.2.2.2.1, (by omega : (sH S).1 + 1 ≤ 8), fun k hk => ?_, h.2.2.2.2.2.2.2.2⟩
    have hk : k < (sH S).1 + 1 := hk
    show (0 ≤ (if k = (sH S).1 then x else (sH S).2.1 k) ∧ (if k = (sH S).1 then x else (sH S).2.1 k) < lP (sL S)) ∧ 0 ≤ (if k = (sH S).1 then v else (sH S).2.2 k) ∧ (if k = (sH S).1 then v else (sH S).2.2 k) ≤ 3
    by_cases z : k = (sH S).1
    · rw [if_pos z, if_pos z]; exact ⟨q.1.1, q.1.2⟩
    · rw [if_neg z, if_neg z]; exact h.2.2.2.2.2.2.2.1 k (by omega)
  · exact h
theorem ok_forget {B : Int} {S : Sx} (h : SxOk B S) : SxOk B (z_forget S) := ⟨h.1, h.2.1, h.2.2.1, h.2.2.2.1, h.2.2.2.2.1, h.2.2.2.2.2.1, Nat.zero_le 8, fun k hk => absurd hk (Nat.not_lt_zero k), h.2.2.2.2.2.2.2.2⟩
theorem ok_keep {B : Int} {S : Sx} (h : SxOk B S) : SxOk B (z_keep S) := by
  unfold z_keep
  split
  · exact h
  · next q =>
    have h2 := h.2.2.2.2.1
    refine ⟨h.1, h.2.1, h.2.2.1, h.2.2.2.1, (by omega : (sK S).1 + 1 ≤ 2), fun k hk => ?_, h.2.2.2.2.2.2⟩
    have hk : k < (sK S).1 + 1 := hk
    show FsOk (sL S) B (if k = (sK S).1 then sF S else (sK S).2 k)
    split
    · exact h.2.1
    · exact h.2.2.2.2.2.1 k (by omega)
theorem ok_back {B : Int} {S : Sx} (h : SxOk B S) : SxOk B (z_back S) := by
  unfold z_back
  split
  · exact h
  · next q =>
    have h2 := h.2.2.2.2.1
    exact ⟨h.1, h.2.2.2.2.2.1 _ (by omega), Nat.zero_le 8, fun k hk => absurd hk (Nat.not_lt_zero k), (by omega : (sK S).1 - 1 ≤ 2), fun k hk => h.2.2.2.2.2.1 k (by have hk : k < (sK S).1 - 1 := hk; omega), h.2.2.2.2.2.2⟩
