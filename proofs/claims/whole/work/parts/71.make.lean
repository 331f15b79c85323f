/-! ===== making objects ===== -/
def mI0 : mI := fun _ _ => 0
theorem mzr_0 {k : Nat} : mzr mI0 k = mI0 := by
  funext r j
  unfold mzr mI0
  split <;> rfl
theorem nrm_0 : Nrm mI0 := fun _ _ => ⟨(by decide : (-2147483648 : Int) ≤ 0), (by decide : (0 : Int) < 2147483648)⟩
theorem set_at (σ L : List mC) (o o' : mC) {n : Nat} (hn : σ.length = n) : (σ ++ o :: L).set n o' = σ ++ o' :: L := by
  subst hn
  simp
theorem get_at (σ L : List mC) {n k : Nat} (hn : σ.length = n) : (σ ++ L)[n + k]? = L[k]? := by
  subst hn
  rw [List.getElem?_append_right (by omega)]
  congr 1
  omega
theorem get_at0 (σ L : List mC) (o : mC) {n : Nat} (hn : σ.length = n) : (σ ++ o :: L)[n]? = some o := by
  have := get_at σ (o :: L) (k := 0) hn
  exact this
section MK
variable {Z : mZ} {M M2 : mM} {pc pa idx1 idx2 idx3 : Nat} {ls : mL} {st : List mV} {σ rest : List mC} {n j : Nat}
/-- new X; dup; what it is made of; X(..); put into a field of this -/
theorem n_mk {ci cj k na : Nat} {q : vw_C} {fs gs : List (Option (Option Nat))} {o' : Option Nat} {b : Nat → List mC} {as : List mV} (hn : σ.length = n) (hj : rest.length = j) (d0 : decode M.2.1 pc = .ok (.new idx1, 3)) (hq : mcl[ci]? = some q) (w1 : Cond.classLink M.1.cls idx1 q.1 ∈ gtbl) (w2 : Cond.instantiable q.1 q.2.2 ∈ gtbl) (w3 : Cond.initialized q.1 ∈ gtbl) (hN : fs.length = q.2.2) (hf : ∀ j, j < q.2.2 → (fs[j]? = some none ∧ mty ci j = .int) ∨ (fs[j]? = some (some none) ∧ ((∃ n, mty ci j = .object n) ∨ ∃ t, mty ci j = .array t)))
    (d1 : decode M.2.1 (pc + 3) = .ok (.dup, 1)) (ha : ∀ (st : List mV) (h : mH), mGo Z M (pc + 4) ls st h pa ls (as.reverse ++ st) h) (d2 : decode M.2.1 pa = .ok (.invokespecial idx2, 3)) (ok : mOkB M.1.cls idx2 M2 na) (fit : mFit M M2) (wi : Cond.instanceMethod M2.1 ∈ gtbl) (hnm : M2.1.name = "<init>") (hrt : M2.2.2.2.1 = none) (hna : as.length = na)
    (hc : ∀ (σ : List mC) (n : Nat), σ.length = n → mCt M2 (mr n :: as) (σ ++ [.inl (ci, fs)], mI0) none (σ ++ b n, mI0)) (d3 : decode M.2.1 (pa + 3) = .ok (.putfield idx3, 3)) (ok3 : mOkF M.1.cls idx3 cj k) (hfp : ∀ q : vw_C, mcl[cj]? = some q → (q.2.1 k).2.2.2 = true ∧ (q.2.1 k).1 = M.1.cls) (hty : (∃ n, mty cj k = .object n) ∨ ∃ t, mty cj k = .array t) (hin : M.1.name = "<init>") (hk : gs[k]? = some (some o')) (hw : mwt st ≤ 4) :
    mGo Z M pc ls (mr n :: st) (σ ++ (.inl (cj, gs)) :: rest, mI0) (pa + 6) ls st (σ ++ (.inl (cj, gs.set k (some (some (n + 1 + j))))) :: (rest ++ b (n + 1 + j)), mI0) := by
  have hl : (σ ++ (.inl (cj, gs)) :: rest).length = n + 1 + j := by rw [List.length_append, List.length_cons, hn, hj]; omega
  have g1 : mGo Z M pc ls (mr n :: st) (σ ++ (.inl (cj, gs)) :: rest, mI0) (pc + 3) ls (mr (n + 1 + j) :: mr n :: st) ((σ ++ (.inl (cj, gs)) :: rest) ++ [.inl (ci, fs)], mI0) := by
    have g := q_new (Z := Z) (ls := ls) (st := mr n :: st) (σ := σ ++ (.inl (cj, gs)) :: rest) (I := mI0) d0 hq w1 w2 w3 hN hf
    rw [mzr_0, hl] at g
    exact g
  refine g1.tr ((q_dup d1 rfl).tr ((ha _ _).tr ?_))
  have hw2 : mwt (mr (n + 1 + j) :: mr n :: st) ≤ 8 := by
    show (1 + (1 + mwt st)) ≤ 8
    omega
  refine (q_callIv as (mr (n + 1 + j) :: mr n :: st) d2 ok fit wi hnm hrt rfl hna hw2 (hc _ _ hl)).tr ?_
  have hg : ((σ ++ (.inl (cj, gs)) :: rest) ++ b (n + 1 + j))[n]? = some (.inl (cj, gs)) := by
    rw [List.append_assoc]
    exact get_at0 σ (rest ++ b (n + 1 + j)) _ hn
  have g5 := q_putR (Z := Z) (ls := ls) (st := st) (I := mI0) (o := some (n + 1 + j)) d3 ok3 hfp hty hin hg hk
  rw [List.append_assoc, show (.inl (cj, gs)) :: rest ++ b (n + 1 + j) = (.inl (cj, gs)) :: (rest ++ b (n + 1 + j)) from rfl, set_at σ _ _ _ hn] at g5
  rw [List.append_assoc]
  exact g5
/-- a row of numbers, put into a field of this -/
theorem n_arrI {cj k kk : Nat} {gs : List (Option (Option Nat))} {o' : Option Nat} (hn : σ.length = n) (hj : rest.length = j) (d0 : decode M.2.1 pc = .ok (.newarray .int, 2)) (w : Cond.arrayClass .int ∈ gtbl) (hkk : kk < 100000) (d3 : decode M.2.1 (pc + 2) = .ok (.putfield idx3, 3)) (ok3 : mOkF M.1.cls idx3 cj k) (hfp : ∀ q : vw_C, mcl[cj]? = some q → (q.2.1 k).2.2.2 = true ∧ (q.2.1 k).1 = M.1.cls) (hty : (∃ n, mty cj k = .object n) ∨ ∃ t, mty cj k = .array t) (hin : M.1.name = "<init>") (hk : gs[k]? = some (some o')) :
    mGo Z M pc ls (mi (kk : Int) :: mr n :: st) (σ ++ (.inl (cj, gs)) :: rest, mI0) (pc + 5) ls st (σ ++ (.inl (cj, gs.set k (some (some (n + 1 + j))))) :: (rest ++ [.inr (.inl kk)]), mI0) := by
  have hl : (σ ++ (.inl (cj, gs)) :: rest).length = n + 1 + j := by rw [List.length_append, List.length_cons, hn, hj]; omega
  have g1 : mGo Z M pc ls (mi (kk : Int) :: mr n :: st) (σ ++ (.inl (cj, gs)) :: rest, mI0) (pc + 2) ls (mr (n + 1 + j) :: mr n :: st) ((σ ++ (.inl (cj, gs)) :: rest) ++ [.inr (.inl kk)], mI0) := by
    have g := q_newI (Z := Z) (ls := ls) (st := mr n :: st) (σ := σ ++ (.inl (cj, gs)) :: rest) (I := mI0) (n := (kk : Int)) d0 w ⟨by omega, by omega⟩
    rw [mzr_0, hl, show ((kk : Int)).toNat = kk by omega] at g
    exact g
  refine g1.tr ?_
  have hg : ((σ ++ (.inl (cj, gs)) :: rest) ++ [.inr (.inl kk)])[n]? = some (.inl (cj, gs)) := by
    rw [List.append_assoc]
    exact get_at0 σ (rest ++ [.inr (.inl kk)]) _ hn
  have g5 := q_putR (Z := Z) (ls := ls) (st := st) (I := mI0) (o := some (n + 1 + j)) d3 ok3 hfp hty hin hg hk
  rw [List.append_assoc, show (.inl (cj, gs)) :: rest ++ [(.inr (.inl kk) : mC)] = (.inl (cj, gs)) :: (rest ++ [.inr (.inl kk)]) from rfl, set_at σ _ _ _ hn] at g5
  rw [List.append_assoc]
  exact g5
/-- a row of objects, put into a field of this -/
theorem n_arrR {cj k kk t : Nat} {q : vw_C} {gs : List (Option (Option Nat))} {o' : Option Nat} (hn : σ.length = n) (hj : rest.length = j) (d0 : decode M.2.1 pc = .ok (.anewarray idx1, 3)) (ht : t = 1 ∨ t = 2) (hq : mcl[mek t]? = some q) (w : Cond.classLink M.1.cls idx1 q.1 ∈ gtbl) (hkk : kk < 100000) (d3 : decode M.2.1 (pc + 3) = .ok (.putfield idx3, 3)) (ok3 : mOkF M.1.cls idx3 cj k) (hfp : ∀ q : vw_C, mcl[cj]? = some q → (q.2.1 k).2.2.2 = true ∧ (q.2.1 k).1 = M.1.cls) (hty : (∃ n, mty cj k = .object n) ∨ ∃ t, mty cj k = .array t) (hin : M.1.name = "<init>") (hk : gs[k]? = some (some o')) :
    mGo Z M pc ls (mi (kk : Int) :: mr n :: st) (σ ++ (.inl (cj, gs)) :: rest, mI0) (pc + 6) ls st (σ ++ (.inl (cj, gs.set k (some (some (n + 1 + j))))) :: (rest ++ [.inr (.inr (t, List.replicate kk none))]), mI0) := by
  have hl : (σ ++ (.inl (cj, gs)) :: rest).length = n + 1 + j := by rw [List.length_append, List.length_cons, hn, hj]; omega
  have g1 : mGo Z M pc ls (mi (kk : Int) :: mr n :: st) (σ ++ (.inl (cj, gs)) :: rest, mI0) (pc + 3) ls (mr (n + 1 + j) :: mr n :: st) ((σ ++ (.inl (cj, gs)) :: rest) ++ [.inr (.inr (t, List.replicate kk none))], mI0) := by
    have g := q_newR (Z := Z) (ls := ls) (st := mr n :: st) (σ := σ ++ (.inl (cj, gs)) :: rest) (I := mI0) (n := (kk : Int)) d0 ht hq w ⟨by omega, by omega⟩
    rw [hl, show ((kk : Int)).toNat = kk by omega] at g
    exact g
  refine g1.tr ?_
  have hg : ((σ ++ (.inl (cj, gs)) :: rest) ++ [.inr (.inr (t, List.replicate kk none))])[n]? = some (.inl (cj, gs)) := by
    rw [List.append_assoc]
    exact get_at0 σ (rest ++ [.inr (.inr (t, List.replicate kk none))]) _ hn
  have g5 := q_putR (Z := Z) (ls := ls) (st := st) (I := mI0) (o := some (n + 1 + j)) d3 ok3 hfp hty hin hg hk
  rw [List.append_assoc, show (.inl (cj, gs)) :: rest ++ [(.inr (.inr (t, List.replicate kk none)) : mC)] = (.inl (cj, gs)) :: (rest ++ [.inr (.inr (t, List.replicate kk none))]) from rfl, set_at σ _ _ _ hn] at g5
  rw [List.append_assoc]
  exact g5
/-- row[i] = new X() -/
theorem n_el {ci p t : Nat} {i : Int} {q : vw_C} {fs : List (Option (Option Nat))} {rs : List (Option Nat)} {L : List mC} {b : Nat → List mC} (hn : σ.length = n) (hj : L.length = j) (hp : L[p]? = some (.inr (.inr (t, rs)))) (d0 : decode M.2.1 pc = .ok (.new idx1, 3)) (hq : mcl[ci]? = some q) (w1 : Cond.classLink M.1.cls idx1 q.1 ∈ gtbl) (w2 : Cond.instantiable q.1 q.2.2 ∈ gtbl) (w3 : Cond.initialized q.1 ∈ gtbl) (hN : fs.length = q.2.2) (hf : ∀ j, j < q.2.2 → (fs[j]? = some none ∧ mty ci j = .int) ∨ (fs[j]? = some (some none) ∧ ((∃ n, mty ci j = .object n) ∨ ∃ t, mty ci j = .array t)))
    (d1 : decode M.2.1 (pc + 3) = .ok (.dup, 1)) (d2 : decode M.2.1 (pc + 4) = .ok (.invokespecial idx2, 3)) (ok : mOkB M.1.cls idx2 M2 0) (fit : mFit M M2) (wi : Cond.instanceMethod M2.1 ∈ gtbl) (hnm : M2.1.name = "<init>") (hrt : M2.2.2.2.1 = none) (hc : ∀ (σ : List mC) (n : Nat), σ.length = n → mCt M2 [mr n] (σ ++ [.inl (ci, fs)], mI0) none (σ ++ b n, mI0)) (hb : ∃ fs' l, b (n + j) = (.inl (mek t, fs')) :: l) (d3 : decode M.2.1 (pc + 7) = .ok (.aastore, 1)) (ht : t = 1 ∨ t = 2) {rl : Nat} (hrs : rs.length = rl) (hi : 0 ≤ i ∧ i < (rl : Int)) (hrl : rl < 2147483648) (hw : mwt st ≤ 3) :
    mGo Z M pc ls (mi i :: mr (n + p) :: st) (σ ++ L, mI0) (pc + 8) ls st (σ ++ (L.set p (.inr (.inr (t, rs.set i.toNat (some (n + j)))))) ++ b (n + j), mI0) := by
  have hl : (σ ++ L).length = n + j := by rw [List.length_append, hn, hj]
  have g1 : mGo Z M pc ls (mi i :: mr (n + p) :: st) (σ ++ L, mI0) (pc + 3) ls (mr (n + j) :: mi i :: mr (n + p) :: st) ((σ ++ L) ++ [.inl (ci, fs)], mI0) := by
    have g := q_new (Z := Z) (ls := ls) (st := mi i :: mr (n + p) :: st) (σ := σ ++ L) (I := mI0) d0 hq w1 w2 w3 hN hf
    rw [mzr_0, hl] at g
    exact g
  refine g1.tr ((q_dup d1 rfl).tr ?_)
  have hw2 : mwt (mr (n + j) :: mi i :: mr (n + p) :: st) ≤ 8 := by
    show (1 + (1 + (1 + mwt st))) ≤ 8
    omega
  refine (q_callIv [] (mr (n + j) :: mi i :: mr (n + p) :: st) d2 ok fit wi hnm hrt rfl rfl hw2 (hc _ _ hl)).tr ?_
  obtain ⟨fs', l', hb'⟩ := hb
  have hpl : p < L.length := (List.getElem?_eq_some_iff.mp hp).1
  have hr : ((σ ++ L) ++ b (n + j))[n + p]? = some (.inr (.inr (t, rs))) := by
    rw [List.append_assoc, get_at σ (L ++ b (n + j)) hn, List.getElem?_append_left hpl]
    exact hp
  have hv : ((σ ++ L) ++ b (n + j))[n + j]? = some (.inl (mek t, fs')) := by
    rw [hb']
    have := get_at (σ ++ L) ((.inl (mek t, fs')) :: l') (k := 0) hl
    exact this
  have g5 := q_aast (Z := Z) (ls := ls) (st := st) (I := mI0) d3 hr ht hv (by rw [hrs]; exact hi) (by rw [hrs]; exact hrl)
  have e : ((σ ++ L) ++ b (n + j)).set (n + p) (.inr (.inr (t, rs.set i.toNat (some (n + j))))) = σ ++ (L.set p (.inr (.inr (t, rs.set i.toNat (some (n + j)))))) ++ b (n + j) := by
    subst hn
    rw [List.append_assoc, List.set_append_right _ _ (by omega), Nat.add_sub_cancel_left, List.set_append_left _ _ hpl, List.append_assoc]
  rw [e] at g5
  exact g5
end MK
def bRow (n k : Nat) : List mC := [.inl (3, [some (some (n + 1))]), .inr (.inl k)]
def bText (n : Nat) : List mC := [.inl (5, [some (some (n + 1)), none]), .inr (.inl 200)]
def bTrv : List mC := [.inl (6, [none, none, none, none, none, none])]
def bLand (n : Nat) : List mC := .inl (1, [some (some (n + 1)), some (some (n + 3)), some (some (n + 5)), none, none, none, none, none]) :: ((([] ++ bRow (n + 1) 36) ++ bRow (n + 3) 4) ++ bRow (n + 5) 144)
def bForest (n : Nat) : List mC := [.inl (0, [some (some (n + 1)), some (some (n + 3)), none, none]), .inl (3, [some (some (n + 2))]), .inr (.inl 144), .inr (.inr (1, [some (n + 4), some (n + 5), some (n + 6), some (n + 7)])), .inl (6, [none, none, none, none, none, none]), .inl (6, [none, none, none, none, none, none]), .inl (6, [none, none, none, none, none, none]), .inl (6, [none, none, none, none, none, none])]
def bReader (n : Nat) : List mC := .inl (2, [some (some (n + 1)), some (some (n + 8)), some (some (n + 16))]) :: ((([] ++ bLand (n + 1)) ++ bForest (n + 8)) ++ bRow (n + 16) 3)
def bWays (n : Nat) : List mC := .inl (7, [some (some (n + 1)), some (some (n + 3))]) :: (([] ++ bRow (n + 1) 36) ++ bRow (n + 3) 36)

theorem fr_0 : ∀ j, j < 4 → ((([some none, some none, none, none] : List (Option (Option Nat)))[j]? = some none ∧ mty 0 j = .int) ∨ (([some none, some none, none, none] : List (Option (Option Nat)))[j]? = some (some none) ∧ ((∃ n, mty 0 j = .object n) ∨ ∃ t, mty 0 j = .array t))) := by
  intro j hj
  match j, hj with
  | 0, _ => exact Or.inr ⟨rfl, Or.inl ⟨_, rfl⟩⟩
  | 1, _ => exact Or.inr ⟨rfl, Or.inr ⟨_, rfl⟩⟩
  | 2, _ => exact Or.inl ⟨rfl, rfl⟩
  | 3, _ => exact Or.inl ⟨rfl, rfl⟩
  | _ + 4, h => exact absurd h (by omega)

theorem fr_1 : ∀ j, j < 8 → ((([some none, some none, some none, none, none, none, none, none] : List (Option (Option Nat)))[j]? = some none ∧ mty 1 j = .int) ∨ (([some none, some none, some none, none, none, none, none, none] : List (Option (Option Nat)))[j]? = some (some none) ∧ ((∃ n, mty 1 j = .object n) ∨ ∃ t, mty 1 j = .array t))) := by
  intro j hj
  match j, hj with
  | 0, _ => exact Or.inr ⟨rfl, Or.inl ⟨_, rfl⟩⟩
  | 1, _ => exact Or.inr ⟨rfl, Or.inl ⟨_, rfl⟩⟩
  | 2, _ => exact Or.inr ⟨rfl, Or.inl ⟨_, rfl⟩⟩
  | 3, _ => exact Or.inl ⟨rfl, rfl⟩
  | 4, _ => exact Or.inl ⟨rfl, rfl⟩
  | 5, _ => exact Or.inl ⟨rfl, rfl⟩
  | 6, _ => exact Or.inl ⟨rfl, rfl⟩
  | 7, _ => exact Or.inl ⟨rfl, rfl⟩
  | _ + 8, h => exact absurd h (by omega)

theorem fr_2 : ∀ j, j < 3 → ((([some none, some none, some none] : List (Option (Option Nat)))[j]? = some none ∧ mty 2 j = .int) ∨ (([some none, some none, some none] : List (Option (Option Nat)))[j]? = some (some none) ∧ ((∃ n, mty 2 j = .object n) ∨ ∃ t, mty 2 j = .array t))) := by
  intro j hj
  match j, hj with
  | 0, _ => exact Or.inr ⟨rfl, Or.inl ⟨_, rfl⟩⟩
  | 1, _ => exact Or.inr ⟨rfl, Or.inl ⟨_, rfl⟩⟩
  | 2, _ => exact Or.inr ⟨rfl, Or.inl ⟨_, rfl⟩⟩
  | _ + 3, h => exact absurd h (by omega)

theorem fr_3 : ∀ j, j < 1 → ((([some none] : List (Option (Option Nat)))[j]? = some none ∧ mty 3 j = .int) ∨ (([some none] : List (Option (Option Nat)))[j]? = some (some none) ∧ ((∃ n, mty 3 j = .object n) ∨ ∃ t, mty 3 j = .array t))) := by
  intro j hj
  match j, hj with
  | 0, _ => exact Or.inr ⟨rfl, Or.inr ⟨_, rfl⟩⟩
  | _ + 1, h => exact absurd h (by omega)

theorem fr_4 : ∀ j, j < 2 → ((([some none, none] : List (Option (Option Nat)))[j]? = some none ∧ mty 4 j = .int) ∨ (([some none, none] : List (Option (Option Nat)))[j]? = some (some none) ∧ ((∃ n, mty 4 j = .object n) ∨ ∃ t, mty 4 j = .array t))) := by
  intro j hj
  match j, hj with
  | 0, _ => exact Or.inr ⟨rfl, Or.inr ⟨_, rfl⟩⟩
  | 1, _ => exact Or.inl ⟨rfl, rfl⟩
  | _ + 2, h => exact absurd h (by omega)

theorem fr_5 : ∀ j, j < 2 → ((([some none, none] : List (Option (Option Nat)))[j]? = some none ∧ mty 5 j = .int) ∨ (([some none, none] : List (Option (Option Nat)))[j]? = some (some none) ∧ ((∃ n, mty 5 j = .object n) ∨ ∃ t, mty 5 j = .array t))) := by
  intro j hj
  match j, hj with
  | 0, _ => exact Or.inr ⟨rfl, Or.inr ⟨_, rfl⟩⟩
  | 1, _ => exact Or.inl ⟨rfl, rfl⟩
  | _ + 2, h => exact absurd h (by omega)

theorem fr_6 : ∀ j, j < 6 → ((([none, none, none, none, none, none] : List (Option (Option Nat)))[j]? = some none ∧ mty 6 j = .int) ∨ (([none, none, none, none, none, none] : List (Option (Option Nat)))[j]? = some (some none) ∧ ((∃ n, mty 6 j = .object n) ∨ ∃ t, mty 6 j = .array t))) := by
  intro j hj
  match j, hj with
  | 0, _ => exact Or.inl ⟨rfl, rfl⟩
  | 1, _ => exact Or.inl ⟨rfl, rfl⟩
  | 2, _ => exact Or.inl ⟨rfl, rfl⟩
  | 3, _ => exact Or.inl ⟨rfl, rfl⟩
  | 4, _ => exact Or.inl ⟨rfl, rfl⟩
  | 5, _ => exact Or.inl ⟨rfl, rfl⟩
  | _ + 6, h => exact absurd h (by omega)

theorem fr_7 : ∀ j, j < 2 → ((([some none, some none] : List (Option (Option Nat)))[j]? = some none ∧ mty 7 j = .int) ∨ (([some none, some none] : List (Option (Option Nat)))[j]? = some (some none) ∧ ((∃ n, mty 7 j = .object n) ∨ ∃ t, mty 7 j = .array t))) := by
  intro j hj
  match j, hj with
  | 0, _ => exact Or.inr ⟨rfl, Or.inl ⟨_, rfl⟩⟩
  | 1, _ => exact Or.inr ⟨rfl, Or.inl ⟨_, rfl⟩⟩
  | _ + 2, h => exact absurd h (by omega)

theorem fr_8 : ∀ j, j < 14 → ((([some none, some none, some none, some none, some none, some none, some none, some none, none, some none, some none, some none, some none, some none] : List (Option (Option Nat)))[j]? = some none ∧ mty 8 j = .int) ∨ (([some none, some none, some none, some none, some none, some none, some none, some none, none, some none, some none, some none, some none, some none] : List (Option (Option Nat)))[j]? = some (some none) ∧ ((∃ n, mty 8 j = .object n) ∨ ∃ t, mty 8 j = .array t))) := by
  intro j hj
  match j, hj with
  | 0, _ => exact Or.inr ⟨rfl, Or.inl ⟨_, rfl⟩⟩
  | 1, _ => exact Or.inr ⟨rfl, Or.inl ⟨_, rfl⟩⟩
  | 2, _ => exact Or.inr ⟨rfl, Or.inl ⟨_, rfl⟩⟩
  | 3, _ => exact Or.inr ⟨rfl, Or.inl ⟨_, rfl⟩⟩
  | 4, _ => exact Or.inr ⟨rfl, Or.inl ⟨_, rfl⟩⟩
  | 5, _ => exact Or.inr ⟨rfl, Or.inl ⟨_, rfl⟩⟩
  | 6, _ => exact Or.inr ⟨rfl, Or.inl ⟨_, rfl⟩⟩
  | 7, _ => exact Or.inr ⟨rfl, Or.inl ⟨_, rfl⟩⟩
  | 8, _ => exact Or.inl ⟨rfl, rfl⟩
  | 9, _ => exact Or.inr ⟨rfl, Or.inl ⟨_, rfl⟩⟩
  | 10, _ => exact Or.inr ⟨rfl, Or.inl ⟨_, rfl⟩⟩
  | 11, _ => exact Or.inr ⟨rfl, Or.inl ⟨_, rfl⟩⟩
  | 12, _ => exact Or.inr ⟨rfl, Or.inl ⟨_, rfl⟩⟩
  | 13, _ => exact Or.inr ⟨rfl, Or.inl ⟨_, rfl⟩⟩
  | _ + 14, h => exact absurd h (by omega)

theorem fr_9 : ∀ j, j < 30 → ((([none, none, some none, none, some none, none, some none, some none, some none, none, some none, none, some none, none, some none, none, none, none, some none, none, some none, some none, none, some none, some none, some none, none, none, none, some none] : List (Option (Option Nat)))[j]? = some none ∧ mty 9 j = .int) ∨ (([none, none, some none, none, some none, none, some none, some none, some none, none, some none, none, some none, none, some none, none, none, none, some none, none, some none, some none, none, some none, some none, some none, none, none, none, some none] : List (Option (Option Nat)))[j]? = some (some none) ∧ ((∃ n, mty 9 j = .object n) ∨ ∃ t, mty 9 j = .array t))) := by
  intro j hj
  match j, hj with
  | 0, _ => exact Or.inl ⟨rfl, rfl⟩
  | 1, _ => exact Or.inl ⟨rfl, rfl⟩
  | 2, _ => exact Or.inr ⟨rfl, Or.inr ⟨_, rfl⟩⟩
  | 3, _ => exact Or.inl ⟨rfl, rfl⟩
  | 4, _ => exact Or.inr ⟨rfl, Or.inr ⟨_, rfl⟩⟩
  | 5, _ => exact Or.inl ⟨rfl, rfl⟩
  | 6, _ => exact Or.inr ⟨rfl, Or.inr ⟨_, rfl⟩⟩
  | 7, _ => exact Or.inr ⟨rfl, Or.inr ⟨_, rfl⟩⟩
  | 8, _ => exact Or.inr ⟨rfl, Or.inr ⟨_, rfl⟩⟩
  | 9, _ => exact Or.inl ⟨rfl, rfl⟩
  | 10, _ => exact Or.inr ⟨rfl, Or.inr ⟨_, rfl⟩⟩
  | 11, _ => exact Or.inl ⟨rfl, rfl⟩
  | 12, _ => exact Or.inr ⟨rfl, Or.inr ⟨_, rfl⟩⟩
  | 13, _ => exact Or.inl ⟨rfl, rfl⟩
  | 14, _ => exact Or.inr ⟨rfl, Or.inr ⟨_, rfl⟩⟩
  | 15, _ => exact Or.inl ⟨rfl, rfl⟩
  | 16, _ => exact Or.inl ⟨rfl, rfl⟩
  | 17, _ => exact Or.inl ⟨rfl, rfl⟩
  | 18, _ => exact Or.inr ⟨rfl, Or.inr ⟨_, rfl⟩⟩
  | 19, _ => exact Or.inl ⟨rfl, rfl⟩
  | 20, _ => exact Or.inr ⟨rfl, Or.inr ⟨_, rfl⟩⟩
  | 21, _ => exact Or.inr ⟨rfl, Or.inr ⟨_, rfl⟩⟩
  | 22, _ => exact Or.inl ⟨rfl, rfl⟩
  | 23, _ => exact Or.inr ⟨rfl, Or.inr ⟨_, rfl⟩⟩
  | 24, _ => exact Or.inr ⟨rfl, Or.inr ⟨_, rfl⟩⟩
  | 25, _ => exact Or.inr ⟨rfl, Or.inr ⟨_, rfl⟩⟩
  | 26, _ => exact Or.inl ⟨rfl, rfl⟩
  | 27, _ => exact Or.inl ⟨rfl, rfl⟩
  | 28, _ => exact Or.inl ⟨rfl, rfl⟩
  | 29, _ => exact Or.inr ⟨rfl, Or.inr ⟨_, rfl⟩⟩
  | _ + 30, h => exact absurd h (by omega)

set_option maxRecDepth 100000 in
theorem c_Row {k : Nat} (hk : 0 < k ∧ k < 100000) {σ : List mC} {n : Nat} (hn : σ.length = n) : mCt mX3_init [mr n, mi (k : Int)] (σ ++ [.inl (3, [some none])], mI0) none (σ ++ bRow n k, mI0) := by
  refine mCt.eq ?_
  refine mMt.of pl_3 (Nat.le_of_ble_eq_true rfl) ?_
  show mRun mZt mX3_init 0 [some (mr n), some (mi (k : Int))] [] (σ ++ (.inl (3, [some none])) :: [], mI0) _
  refine mRun.go (q_aload_n dX3_init_0 rfl rfl) ?_
  refine mRun.go (q_objInit dX3_init_1 gw_58 gw_23 gw_24 (Nat.le_of_ble_eq_true rfl) (Nat.le_of_ble_eq_true rfl) (Nat.le_of_ble_eq_true rfl)) ?_
  refine mRun.go (q_aload_n dX3_init_4 rfl rfl) ?_
  refine mRun.go (q_iload_n dX3_init_5 rfl rfl) ?_
  refine mRun.go (q_if_le_f (tgt := 13) dX3_init_6 (by decide) (by omega) (by omega)) ?_
  refine mRun.go (q_iload_n dX3_init_9 rfl rfl) ?_
  refine mRun.go (q_goto (tgt := 14) dX3_init_10 (by decide)) ?_
  refine mRun.go (n_arrI hn (j := 0) rfl dX3_init_14 gw_40 (by omega) dX3_init_16 fo_X3_7 fp_3_0 (Or.inr ⟨_, rfl⟩) rfl rfl) ?_
  exact r_ret dX3_init_19 rfl ⟨rfl, rfl⟩

set_option maxRecDepth 100000 in
theorem c_Text {σ : List mC} {n : Nat} (hn : σ.length = n) : mCt mX5_init [mr n] (σ ++ [.inl (5, [some none, none])], mI0) none (σ ++ bText n, mI0) := by
  refine mCt.eq ?_
  refine mMt.of pl_5 (Nat.le_of_ble_eq_true rfl) ?_
  show mRun mZt mX5_init 0 [some (mr n)] [] (σ ++ (.inl (5, [some none, none])) :: [], mI0) _
  refine mRun.go (q_aload_n dX5_init_0 rfl rfl) ?_
  refine mRun.go (q_objInit dX5_init_1 gw_30 gw_23 gw_24 (Nat.le_of_ble_eq_true rfl) (Nat.le_of_ble_eq_true rfl) (Nat.le_of_ble_eq_true rfl)) ?_
  refine mRun.go (q_aload_n dX5_init_4 rfl rfl) ?_
  refine mRun.go (q_sipush dX5_init_5 (by decide)) ?_
  refine mRun.go (n_arrI (kk := 200) hn (j := 0) rfl dX5_init_8 gw_40 (by decide) dX5_init_10 fo_X5_9 fp_5_0 (Or.inr ⟨_, rfl⟩) rfl rfl) ?_
  exact r_ret dX5_init_13 rfl ⟨rfl, rfl⟩

set_option maxRecDepth 100000 in
theorem c_Trv {σ : List mC} {n : Nat} (hn : σ.length = n) : mCt mX6_init [mr n] (σ ++ [.inl (6, [none, none, none, none, none, none])], mI0) none (σ ++ bTrv, mI0) := by
  refine mCt.eq ?_
  refine mMt.of pl_6 (Nat.le_of_ble_eq_true rfl) ?_
  show mRun mZt mX6_init 0 [some (mr n)] [] (σ ++ (.inl (6, [none, none, none, none, none, none])) :: [], mI0) _
  refine mRun.go (q_aload_n dX6_init_0 rfl rfl) ?_
  refine mRun.go (q_objInit dX6_init_1 gw_121 gw_23 gw_24 (Nat.le_of_ble_eq_true rfl) (Nat.le_of_ble_eq_true rfl) (Nat.le_of_ble_eq_true rfl)) ?_
  exact r_ret dX6_init_4 rfl ⟨rfl, rfl⟩

set_option maxRecDepth 100000 in
theorem c_Land {σ : List mC} {n : Nat} (hn : σ.length = n) : mCt mX1_init [mr n] (σ ++ [.inl (1, [some none, some none, some none, none, none, none, none, none])], mI0) none (σ ++ bLand n, mI0) := by
  refine mCt.eq ?_
  refine mMt.of pl_1 (Nat.le_of_ble_eq_true rfl) ?_
  show mRun mZt mX1_init 0 [some (mr n)] [] (σ ++ (.inl (1, [some none, some none, some none, none, none, none, none, none])) :: [], mI0) _
  refine mRun.go (q_aload_n dX1_init_0 rfl rfl) ?_
  refine mRun.go (q_objInit dX1_init_1 gw_52 gw_23 gw_24 (Nat.le_of_ble_eq_true rfl) (Nat.le_of_ble_eq_true rfl) (Nat.le_of_ble_eq_true rfl)) ?_
  refine mRun.go (q_aload_n dX1_init_4 rfl rfl) ?_
  refine mRun.go (n_mk (ci := 3) (q := (RX3, TX3, 1)) (fs := [some none]) (b := fun n => bRow n 36) (as := [mi 36]) hn (j := 0) rfl dX1_init_5 rfl gw_53 gw_54 gw_5 rfl fr_3 dX1_init_8 (fun st h => q_bipush dX1_init_9 (by decide)) dX1_init_11 co_X1_11 ⟨Nat.le_of_ble_eq_true rfl, Nat.le_of_ble_eq_true rfl⟩ gw_56 rfl rfl rfl (fun σ n hn => c_Row (k := 36) (by decide) hn) dX1_init_14 fo_X1_14 fp_1_0 (Or.inl ⟨_, rfl⟩) rfl rfl (Nat.le_of_ble_eq_true rfl)) ?_
  refine mRun.go (q_aload_n dX1_init_17 rfl rfl) ?_
  refine mRun.go (n_mk (ci := 3) (q := (RX3, TX3, 1)) (fs := [some none]) (b := fun n => bRow n 4) (as := [mi 4]) hn (j := 2) rfl dX1_init_18 rfl gw_53 gw_54 gw_5 rfl fr_3 dX1_init_21 (fun st h => q_iconst dX1_init_22) dX1_init_23 co_X1_11 ⟨Nat.le_of_ble_eq_true rfl, Nat.le_of_ble_eq_true rfl⟩ gw_56 rfl rfl rfl (fun σ n hn => c_Row (k := 4) (by decide) hn) dX1_init_26 fo_X1_20 fp_1_1 (Or.inl ⟨_, rfl⟩) rfl rfl (Nat.le_of_ble_eq_true rfl)) ?_
  refine mRun.go (q_aload_n dX1_init_29 rfl rfl) ?_
  refine mRun.go (n_mk (ci := 3) (q := (RX3, TX3, 1)) (fs := [some none]) (b := fun n => bRow n 144) (as := [mi 144]) hn (j := 4) rfl dX1_init_30 rfl gw_53 gw_54 gw_5 rfl fr_3 dX1_init_33 (fun st h => q_sipush dX1_init_34 (by decide)) dX1_init_37 co_X1_11 ⟨Nat.le_of_ble_eq_true rfl, Nat.le_of_ble_eq_true rfl⟩ gw_56 rfl rfl rfl (fun σ n hn => c_Row (k := 144) (by decide) hn) dX1_init_40 fo_X1_23 fp_1_2 (Or.inl ⟨_, rfl⟩) rfl rfl (Nat.le_of_ble_eq_true rfl)) ?_
  exact r_ret dX1_init_43 rfl ⟨rfl, rfl⟩

set_option maxRecDepth 100000 in
theorem c_Ways {σ : List mC} {n : Nat} (hn : σ.length = n) : mCt mX7_init [mr n] (σ ++ [.inl (7, [some none, some none])], mI0) none (σ ++ bWays n, mI0) := by
  refine mCt.eq ?_
  refine mMt.of pl_7 (Nat.le_of_ble_eq_true rfl) ?_
  show mRun mZt mX7_init 0 [some (mr n)] [] (σ ++ (.inl (7, [some none, some none])) :: [], mI0) _
  refine mRun.go (q_aload_n dX7_init_0 rfl rfl) ?_
  refine mRun.go (q_objInit dX7_init_1 gw_209 gw_23 gw_24 (Nat.le_of_ble_eq_true rfl) (Nat.le_of_ble_eq_true rfl) (Nat.le_of_ble_eq_true rfl)) ?_
  refine mRun.go (q_aload_n dX7_init_4 rfl rfl) ?_
  refine mRun.go (n_mk (ci := 3) (q := (RX3, TX3, 1)) (fs := [some none]) (b := fun n => bRow n 36) (as := [mi 36]) hn (j := 0) rfl dX7_init_5 rfl gw_210 gw_54 gw_5 rfl fr_3 dX7_init_8 (fun st h => q_bipush dX7_init_9 (by decide)) dX7_init_11 co_X7_11 ⟨Nat.le_of_ble_eq_true rfl, Nat.le_of_ble_eq_true rfl⟩ gw_56 rfl rfl rfl (fun σ n hn => c_Row (k := 36) (by decide) hn) dX7_init_14 fo_X7_14 fp_7_0 (Or.inl ⟨_, rfl⟩) rfl rfl (Nat.le_of_ble_eq_true rfl)) ?_
  refine mRun.go (q_aload_n dX7_init_17 rfl rfl) ?_
  refine mRun.go (n_mk (ci := 3) (q := (RX3, TX3, 1)) (fs := [some none]) (b := fun n => bRow n 36) (as := [mi 36]) hn (j := 2) rfl dX7_init_18 rfl gw_210 gw_54 gw_5 rfl fr_3 dX7_init_21 (fun st h => q_bipush dX7_init_22 (by decide)) dX7_init_24 co_X7_11 ⟨Nat.le_of_ble_eq_true rfl, Nat.le_of_ble_eq_true rfl⟩ gw_56 rfl rfl rfl (fun σ n hn => c_Row (k := 36) (by decide) hn) dX7_init_27 fo_X7_20 fp_7_1 (Or.inl ⟨_, rfl⟩) rfl rfl (Nat.le_of_ble_eq_true rfl)) ?_
  exact r_ret dX7_init_30 rfl ⟨rfl, rfl⟩

set_option maxRecDepth 100000 in
theorem c_Forest {σ : List mC} {n : Nat} (hn : σ.length = n) : mCt mX0_init [mr n] (σ ++ [.inl (0, [some none, some none, none, none])], mI0) none (σ ++ bForest n, mI0) := by
  refine mCt.eq ?_
  refine mMt.of pl_0 (Nat.le_of_ble_eq_true rfl) ?_
  show mRun mZt mX0_init 0 [some (mr n), none] [] (σ ++ (.inl (0, [some none, some none, none, none])) :: [], mI0) _
  refine mRun.go (q_aload_n dX0_init_0 rfl rfl) ?_
  refine mRun.go (q_objInit dX0_init_1 gw_112 gw_23 gw_24 (Nat.le_of_ble_eq_true rfl) (Nat.le_of_ble_eq_true rfl) (Nat.le_of_ble_eq_true rfl)) ?_
  refine mRun.go (q_aload_n dX0_init_4 rfl rfl) ?_
  refine mRun.go (n_mk (ci := 3) (q := (RX3, TX3, 1)) (fs := [some none]) (b := fun n => bRow n 144) (as := [mi 144]) hn (j := 0) rfl dX0_init_5 rfl gw_113 gw_54 gw_5 rfl fr_3 dX0_init_8 (fun st h => q_sipush dX0_init_9 (by decide)) dX0_init_12 co_X0_11 ⟨Nat.le_of_ble_eq_true rfl, Nat.le_of_ble_eq_true rfl⟩ gw_56 rfl rfl rfl (fun σ n hn => c_Row (k := 144) (by decide) hn) dX0_init_15 fo_X0_14 fp_0_0 (Or.inl ⟨_, rfl⟩) rfl rfl (Nat.le_of_ble_eq_true rfl)) ?_
  refine mRun.go (q_aload_n dX0_init_18 rfl rfl) ?_
  refine mRun.go (q_iconst dX0_init_19) ?_
  refine mRun.go (n_arrR (q := (RX6, TX6, 6)) (kk := 4) (t := 1) hn (j := 2) rfl dX0_init_20 (Or.inl rfl) rfl gw_115 (by decide) dX0_init_23 fo_X0_22 fp_0_1 (Or.inr ⟨_, rfl⟩) rfl rfl) ?_
  refine mRun.go (q_iconst dX0_init_26) ?_
  refine mRun.go (q_istore_n (ls' := [some (mr n), some (mi 0)]) dX0_init_27 rfl (Nat.le_of_ble_eq_true rfl) rfl) ?_
  show mRun mZt mX0_init 28 [some (mr n), some (mi 0)] [] (σ ++ [.inl (0, [some (some (n + 1)), some (some (n + 3)), none, none]), .inl (3, [some (some (n + 2))]), .inr (.inl 144), .inr (.inr (1, [none, none, none, none]))], mI0) _
  refine mRun.go (q_iload_n dX0_init_28 rfl rfl) ?_
  refine mRun.go (q_aload_n dX0_init_29 rfl rfl) ?_
  refine mRun.go (q_getR dX0_init_30 fo_X0_22 (get_at0 σ _ _ hn) rfl) ?_
  refine mRun.go (q_alenRE (n := 4) dX0_init_33 (get_at σ _ (k := 3) hn) (Or.inl rfl) rfl) ?_
  refine mRun.go (q_icmp_ge_f (tgt := 56) dX0_init_34 (by decide) (by decide) (by decide) (by decide)) ?_
  refine mRun.go (q_aload_n dX0_init_37 rfl rfl) ?_
  refine mRun.go (q_getR dX0_init_38 fo_X0_22 (get_at0 σ _ _ hn) rfl) ?_
  refine mRun.go (q_iload_n dX0_init_41 rfl rfl) ?_
  refine mRun.go (n_el (ci := 6) (q := (RX6, TX6, 6)) (p := 3) (t := 1) (j := 4) (b := fun _ => bTrv) hn rfl rfl dX0_init_42 rfl gw_115 gw_117 gw_7 rfl fr_6 dX0_init_45 dX0_init_46 co_X0_26 ⟨Nat.le_of_ble_eq_true rfl, Nat.le_of_ble_eq_true rfl⟩ gw_119 rfl rfl (fun σ n hn => c_Trv hn) ⟨_, _, rfl⟩ dX0_init_49 (Or.inl rfl) (rl := 4) rfl (by decide) (by decide) (Nat.le_of_ble_eq_true rfl)) ?_
  rw [List.append_assoc]
  refine mRun.go (q_iinc (ls' := [some (mr n), some (mi (0 + 1))]) dX0_init_50 rfl (Nat.le_of_ble_eq_true rfl) rfl) ?_
  refine mRun.go (q_goto (tgt := 28) dX0_init_53 (by decide)) ?_
  show mRun mZt mX0_init 28 [some (mr n), some (mi (0 + 1))] [] (σ ++ [.inl (0, [some (some (n + 1)), some (some (n + 3)), none, none]), .inl (3, [some (some (n + 2))]), .inr (.inl 144), .inr (.inr (1, [some (n + 4), none, none, none])), .inl (6, [none, none, none, none, none, none])], mI0) _
  refine mRun.go (q_iload_n dX0_init_28 rfl rfl) ?_
  refine mRun.go (q_aload_n dX0_init_29 rfl rfl) ?_
  refine mRun.go (q_getR dX0_init_30 fo_X0_22 (get_at0 σ _ _ hn) rfl) ?_
  refine mRun.go (q_alenRE (n := 4) dX0_init_33 (get_at σ _ (k := 3) hn) (Or.inl rfl) rfl) ?_
  refine mRun.go (q_icmp_ge_f (tgt := 56) dX0_init_34 (by decide) (by decide) (by decide) (by decide)) ?_
  refine mRun.go (q_aload_n dX0_init_37 rfl rfl) ?_
  refine mRun.go (q_getR dX0_init_38 fo_X0_22 (get_at0 σ _ _ hn) rfl) ?_
  refine mRun.go (q_iload_n dX0_init_41 rfl rfl) ?_
  refine mRun.go (n_el (ci := 6) (q := (RX6, TX6, 6)) (p := 3) (t := 1) (j := 5) (b := fun _ => bTrv) hn rfl rfl dX0_init_42 rfl gw_115 gw_117 gw_7 rfl fr_6 dX0_init_45 dX0_init_46 co_X0_26 ⟨Nat.le_of_ble_eq_true rfl, Nat.le_of_ble_eq_true rfl⟩ gw_119 rfl rfl (fun σ n hn => c_Trv hn) ⟨_, _, rfl⟩ dX0_init_49 (Or.inl rfl) (rl := 4) rfl (by decide) (by decide) (Nat.le_of_ble_eq_true rfl)) ?_
  rw [List.append_assoc]
  refine mRun.go (q_iinc (ls' := [some (mr n), some (mi (0 + 1 + 1))]) dX0_init_50 rfl (Nat.le_of_ble_eq_true rfl) rfl) ?_
  refine mRun.go (q_goto (tgt := 28) dX0_init_53 (by decide)) ?_
  show mRun mZt mX0_init 28 [some (mr n), some (mi (0 + 1 + 1))] [] (σ ++ [.inl (0, [some (some (n + 1)), some (some (n + 3)), none, none]), .inl (3, [some (some (n + 2))]), .inr (.inl 144), .inr (.inr (1, [some (n + 4), some (n + 5), none, none])), .inl (6, [none, none, none, none, none, none]), .inl (6, [none, none, none, none, none, none])], mI0) _
  refine mRun.go (q_iload_n dX0_init_28 rfl rfl) ?_
  refine mRun.go (q_aload_n dX0_init_29 rfl rfl) ?_
  refine mRun.go (q_getR dX0_init_30 fo_X0_22 (get_at0 σ _ _ hn) rfl) ?_
  refine mRun.go (q_alenRE (n := 4) dX0_init_33 (get_at σ _ (k := 3) hn) (Or.inl rfl) rfl) ?_
  refine mRun.go (q_icmp_ge_f (tgt := 56) dX0_init_34 (by decide) (by decide) (by decide) (by decide)) ?_
  refine mRun.go (q_aload_n dX0_init_37 rfl rfl) ?_
  refine mRun.go (q_getR dX0_init_38 fo_X0_22 (get_at0 σ _ _ hn) rfl) ?_
  refine mRun.go (q_iload_n dX0_init_41 rfl rfl) ?_
  refine mRun.go (n_el (ci := 6) (q := (RX6, TX6, 6)) (p := 3) (t := 1) (j := 6) (b := fun _ => bTrv) hn rfl rfl dX0_init_42 rfl gw_115 gw_117 gw_7 rfl fr_6 dX0_init_45 dX0_init_46 co_X0_26 ⟨Nat.le_of_ble_eq_true rfl, Nat.le_of_ble_eq_true rfl⟩ gw_119 rfl rfl (fun σ n hn => c_Trv hn) ⟨_, _, rfl⟩ dX0_init_49 (Or.inl rfl) (rl := 4) rfl (by decide) (by decide) (Nat.le_of_ble_eq_true rfl)) ?_
  rw [List.append_assoc]
  refine mRun.go (q_iinc (ls' := [some (mr n), some (mi (0 + 1 + 1 + 1))]) dX0_init_50 rfl (Nat.le_of_ble_eq_true rfl) rfl) ?_
  refine mRun.go (q_goto (tgt := 28) dX0_init_53 (by decide)) ?_
  show mRun mZt mX0_init 28 [some (mr n), some (mi (0 + 1 + 1 + 1))] [] (σ ++ [.inl (0, [some (some (n + 1)), some (some (n + 3)), none, none]), .inl (3, [some (some (n + 2))]), .inr (.inl 144), .inr (.inr (1, [some (n + 4), some (n + 5), some (n + 6), none])), .inl (6, [none, none, none, none, none, none]), .inl (6, [none, none, none, none, none, none]), .inl (6, [none, none, none, none, none, none])], mI0) _
  refine mRun.go (q_iload_n dX0_init_28 rfl rfl) ?_
  refine mRun.go (q_aload_n dX0_init_29 rfl rfl) ?_
  refine mRun.go (q_getR dX0_init_30 fo_X0_22 (get_at0 σ _ _ hn) rfl) ?_
  refine mRun.go (q_alenRE (n := 4) dX0_init_33 (get_at σ _ (k := 3) hn) (Or.inl rfl) rfl) ?_
  refine mRun.go (q_icmp_ge_f (tgt := 56) dX0_init_34 (by decide) (by decide) (by decide) (by decide)) ?_
  refine mRun.go (q_aload_n dX0_init_37 rfl rfl) ?_
  refine mRun.go (q_getR dX0_init_38 fo_X0_22 (get_at0 σ _ _ hn) rfl) ?_
  refine mRun.go (q_iload_n dX0_init_41 rfl rfl) ?_
  refine mRun.go (n_el (ci := 6) (q := (RX6, TX6, 6)) (p := 3) (t := 1) (j := 7) (b := fun _ => bTrv) hn rfl rfl dX0_init_42 rfl gw_115 gw_117 gw_7 rfl fr_6 dX0_init_45 dX0_init_46 co_X0_26 ⟨Nat.le_of_ble_eq_true rfl, Nat.le_of_ble_eq_true rfl⟩ gw_119 rfl rfl (fun σ n hn => c_Trv hn) ⟨_, _, rfl⟩ dX0_init_49 (Or.inl rfl) (rl := 4) rfl (by decide) (by decide) (Nat.le_of_ble_eq_true rfl)) ?_
  rw [List.append_assoc]
  refine mRun.go (q_iinc (ls' := [some (mr n), some (mi (0 + 1 + 1 + 1 + 1))]) dX0_init_50 rfl (Nat.le_of_ble_eq_true rfl) rfl) ?_
  refine mRun.go (q_goto (tgt := 28) dX0_init_53 (by decide)) ?_
  show mRun mZt mX0_init 28 [some (mr n), some (mi (0 + 1 + 1 + 1 + 1))] [] (σ ++ [.inl (0, [some (some (n + 1)), some (some (n + 3)), none, none]), .inl (3, [some (some (n + 2))]), .inr (.inl 144), .inr (.inr (1, [some (n + 4), some (n + 5), some (n + 6), some (n + 7)])), .inl (6, [none, none, none, none, none, none]), .inl (6, [none, none, none, none, none, none]), .inl (6, [none, none, none, none, none, none]), .inl (6, [none, none, none, none, none, none])], mI0) _
  refine mRun.go (q_iload_n dX0_init_28 rfl rfl) ?_
  refine mRun.go (q_aload_n dX0_init_29 rfl rfl) ?_
  refine mRun.go (q_getR dX0_init_30 fo_X0_22 (get_at0 σ _ _ hn) rfl) ?_
  refine mRun.go (q_alenRE (n := 4) dX0_init_33 (get_at σ _ (k := 3) hn) (Or.inl rfl) rfl) ?_
  refine mRun.go (q_icmp_ge_t (tgt := 56) dX0_init_34 (by decide) (by decide) (by decide) (by decide)) ?_
  exact r_ret dX0_init_56 rfl ⟨rfl, rfl⟩

set_option maxRecDepth 100000 in
theorem c_Reader {σ : List mC} {n : Nat} (hn : σ.length = n) : mCt mX2_init [mr n] (σ ++ [.inl (2, [some none, some none, some none])], mI0) none (σ ++ bReader n, mI0) := by
  refine mCt.eq ?_
  refine mMt.of pl_2 (Nat.le_of_ble_eq_true rfl) ?_
  show mRun mZt mX2_init 0 [some (mr n)] [] (σ ++ (.inl (2, [some none, some none, some none])) :: [], mI0) _
  refine mRun.go (q_aload_n dX2_init_0 rfl rfl) ?_
  refine mRun.go (q_objInit dX2_init_1 gw_46 gw_23 gw_24 (Nat.le_of_ble_eq_true rfl) (Nat.le_of_ble_eq_true rfl) (Nat.le_of_ble_eq_true rfl)) ?_
  refine mRun.go (q_aload_n dX2_init_4 rfl rfl) ?_
  refine mRun.go (n_mk (ci := 1) (q := (RX1, TX1, 8)) (fs := [some none, some none, some none, none, none, none, none, none]) (b := fun n => bLand n) (as := []) hn (j := 0) rfl dX2_init_5 rfl gw_47 gw_48 gw_4 rfl fr_1 dX2_init_8 (fun st h => mGo.rf) dX2_init_9 co_X2_11 ⟨Nat.le_of_ble_eq_true rfl, Nat.le_of_ble_eq_true rfl⟩ gw_50 rfl rfl rfl (fun σ n hn => c_Land hn) dX2_init_12 fo_X2_12 fp_2_0 (Or.inl ⟨_, rfl⟩) rfl rfl (Nat.le_of_ble_eq_true rfl)) ?_
  refine mRun.go (q_aload_n dX2_init_15 rfl rfl) ?_
  refine mRun.go (n_mk (ci := 0) (q := (RX0, TX0, 4)) (fs := [some none, some none, none, none]) (b := fun n => bForest n) (as := []) hn (j := 7) rfl dX2_init_16 rfl gw_107 gw_108 gw_6 rfl fr_0 dX2_init_19 (fun st h => mGo.rf) dX2_init_20 co_X2_20 ⟨Nat.le_of_ble_eq_true rfl, Nat.le_of_ble_eq_true rfl⟩ gw_110 rfl rfl rfl (fun σ n hn => c_Forest hn) dX2_init_23 fo_X2_21 fp_2_1 (Or.inl ⟨_, rfl⟩) rfl rfl (Nat.le_of_ble_eq_true rfl)) ?_
  refine mRun.go (q_aload_n dX2_init_26 rfl rfl) ?_
  refine mRun.go (n_mk (ci := 3) (q := (RX3, TX3, 1)) (fs := [some none]) (b := fun n => bRow n 3) (as := [mi 3]) hn (j := 15) rfl dX2_init_27 rfl gw_165 gw_54 gw_5 rfl fr_3 dX2_init_30 (fun st h => q_iconst dX2_init_31) dX2_init_32 co_X2_27 ⟨Nat.le_of_ble_eq_true rfl, Nat.le_of_ble_eq_true rfl⟩ gw_56 rfl rfl rfl (fun σ n hn => c_Row (k := 3) (by decide) hn) dX2_init_35 fo_X2_30 fp_2_2 (Or.inl ⟨_, rfl⟩) rfl rfl (Nat.le_of_ble_eq_true rfl)) ?_
  exact r_ret dX2_init_38 rfl ⟨rfl, rfl⟩

def bShelf2 (n : Nat) : List mC := .inl (4, [some (some (n + 1)), none]) :: (([.inr (.inr (2, [some (n + 2), some (n + 10)]))] ++ bForest (n + 2)) ++ bForest (n + 10))
set_option maxRecDepth 100000 in
theorem c_Shelf2 {σ : List mC} {n : Nat} (hn : σ.length = n) : mCt mX4_init [mr n, mi 2] (σ ++ [.inl (4, [some none, none])], mI0) none (σ ++ bShelf2 n, mI0) := by
  refine mCt.eq ?_
  refine mMt.of pl_4 (Nat.le_of_ble_eq_true rfl) ?_
  show mRun mZt mX4_init 0 [some (mr n), some (mi 2), none] [] (σ ++ (.inl (4, [some none, none])) :: [], mI0) _
  refine mRun.go (q_aload_n dX4_init_0 rfl rfl) ?_
  refine mRun.go (q_objInit dX4_init_1 gw_188 gw_23 gw_24 (Nat.le_of_ble_eq_true rfl) (Nat.le_of_ble_eq_true rfl) (Nat.le_of_ble_eq_true rfl)) ?_
  refine mRun.go (q_aload_n dX4_init_4 rfl rfl) ?_
  refine mRun.go (q_iload_n dX4_init_5 rfl rfl) ?_
  refine mRun.go (q_if_le_f (tgt := 13) dX4_init_6 (by decide) (by decide) (by decide)) ?_
  refine mRun.go (q_iload_n dX4_init_9 rfl rfl) ?_
  refine mRun.go (q_goto (tgt := 14) dX4_init_10 (by decide)) ?_
  refine mRun.go (n_arrR (q := (RX0, TX0, 4)) (kk := 2) (t := 2) hn (j := 0) rfl dX4_init_14 (Or.inr rfl) rfl gw_189 (by decide) dX4_init_17 fo_X4_9 fp_4_0 (Or.inr ⟨_, rfl⟩) rfl rfl) ?_
  refine mRun.go (q_iconst dX4_init_20) ?_
  refine mRun.go (q_istore_n (ls' := [some (mr n), some (mi 2), some (mi 0)]) dX4_init_21 rfl (Nat.le_of_ble_eq_true rfl) rfl) ?_
  show mRun mZt mX4_init 22 [some (mr n), some (mi 2), some (mi (0))] [] (σ ++ (.inl (4, [some (some (n + 1)), none]) :: [.inr (.inr (2, [none, none]))]), mI0) _
  refine mRun.go (q_iload_n dX4_init_22 rfl rfl) ?_
  refine mRun.go (q_aload_n dX4_init_23 rfl rfl) ?_
  refine mRun.go (q_getR dX4_init_24 fo_X4_9 (get_at0 σ _ _ hn) rfl) ?_
  refine mRun.go (q_alenRE (n := 2) dX4_init_27 ((get_at σ _ (k := 1) hn).trans rfl) (Or.inr rfl) rfl) ?_
  refine mRun.go (q_icmp_ge_f (tgt := 50) dX4_init_28 (by decide) (by decide) (by decide) (by decide)) ?_
  refine mRun.go (q_aload_n dX4_init_31 rfl rfl) ?_
  refine mRun.go (q_getR dX4_init_32 fo_X4_9 (get_at0 σ _ _ hn) rfl) ?_
  refine mRun.go (q_iload_n dX4_init_35 rfl rfl) ?_
  refine mRun.go (n_el (ci := 0) (q := (RX0, TX0, 4)) (p := 1) (t := 2) (j := 2) (b := bForest) hn rfl rfl dX4_init_36 rfl gw_189 gw_108 gw_6 rfl fr_0 dX4_init_39 dX4_init_40 co_X4_15 ⟨Nat.le_of_ble_eq_true rfl, Nat.le_of_ble_eq_true rfl⟩ gw_110 rfl rfl (fun σ n hn => c_Forest hn) ⟨_, _, rfl⟩ dX4_init_43 (Or.inr rfl) (rl := 2) rfl (by decide) (by decide) (Nat.le_of_ble_eq_true rfl)) ?_
  rw [List.append_assoc]
  refine mRun.go (q_iinc (ls' := [some (mr n), some (mi 2), some (mi (0 + 1))]) dX4_init_44 rfl (Nat.le_of_ble_eq_true rfl) rfl) ?_
  refine mRun.go (q_goto (tgt := 22) dX4_init_47 (by decide)) ?_
  show mRun mZt mX4_init 22 [some (mr n), some (mi 2), some (mi (0 + 1))] [] (σ ++ (.inl (4, [some (some (n + 1)), none]) :: ([.inr (.inr (2, [some (n + 2), none]))] ++ bForest (n + 2))), mI0) _
  refine mRun.go (q_iload_n dX4_init_22 rfl rfl) ?_
  refine mRun.go (q_aload_n dX4_init_23 rfl rfl) ?_
  refine mRun.go (q_getR dX4_init_24 fo_X4_9 (get_at0 σ _ _ hn) rfl) ?_
  refine mRun.go (q_alenRE (n := 2) dX4_init_27 ((get_at σ _ (k := 1) hn).trans rfl) (Or.inr rfl) rfl) ?_
  refine mRun.go (q_icmp_ge_f (tgt := 50) dX4_init_28 (by decide) (by decide) (by decide) (by decide)) ?_
  refine mRun.go (q_aload_n dX4_init_31 rfl rfl) ?_
  refine mRun.go (q_getR dX4_init_32 fo_X4_9 (get_at0 σ _ _ hn) rfl) ?_
  refine mRun.go (q_iload_n dX4_init_35 rfl rfl) ?_
  refine mRun.go (n_el (ci := 0) (q := (RX0, TX0, 4)) (p := 1) (t := 2) (j := 10) (b := bForest) hn rfl rfl dX4_init_36 rfl gw_189 gw_108 gw_6 rfl fr_0 dX4_init_39 dX4_init_40 co_X4_15 ⟨Nat.le_of_ble_eq_true rfl, Nat.le_of_ble_eq_true rfl⟩ gw_110 rfl rfl (fun σ n hn => c_Forest hn) ⟨_, _, rfl⟩ dX4_init_43 (Or.inr rfl) (rl := 2) rfl (by decide) (by decide) (Nat.le_of_ble_eq_true rfl)) ?_
  rw [List.append_assoc]
  refine mRun.go (q_iinc (ls' := [some (mr n), some (mi 2), some (mi (0 + 1 + 1))]) dX4_init_44 rfl (Nat.le_of_ble_eq_true rfl) rfl) ?_
  refine mRun.go (q_goto (tgt := 22) dX4_init_47 (by decide)) ?_
  show mRun mZt mX4_init 22 [some (mr n), some (mi 2), some (mi (0 + 1 + 1))] [] (σ ++ (.inl (4, [some (some (n + 1)), none]) :: (([.inr (.inr (2, [some (n + 2), some (n + 10)]))] ++ bForest (n + 2)) ++ bForest (n + 10))), mI0) _
  refine mRun.go (q_iload_n dX4_init_22 rfl rfl) ?_
  refine mRun.go (q_aload_n dX4_init_23 rfl rfl) ?_
  refine mRun.go (q_getR dX4_init_24 fo_X4_9 (get_at0 σ _ _ hn) rfl) ?_
  refine mRun.go (q_alenRE (n := 2) dX4_init_27 ((get_at σ _ (k := 1) hn).trans rfl) (Or.inr rfl) rfl) ?_
  refine mRun.go (q_icmp_ge_t (tgt := 50) dX4_init_28 (by decide) (by decide) (by decide) (by decide)) ?_
  exact r_ret dX4_init_50 rfl ⟨rfl, rfl⟩

def bShelf8 (n : Nat) : List mC := .inl (4, [some (some (n + 1)), none]) :: (((((((([.inr (.inr (2, [some (n + 2), some (n + 10), some (n + 18), some (n + 26), some (n + 34), some (n + 42), some (n + 50), some (n + 58)]))] ++ bForest (n + 2)) ++ bForest (n + 10)) ++ bForest (n + 18)) ++ bForest (n + 26)) ++ bForest (n + 34)) ++ bForest (n + 42)) ++ bForest (n + 50)) ++ bForest (n + 58))
set_option maxRecDepth 100000 in
theorem c_Shelf8 {σ : List mC} {n : Nat} (hn : σ.length = n) : mCt mX4_init [mr n, mi 8] (σ ++ [.inl (4, [some none, none])], mI0) none (σ ++ bShelf8 n, mI0) := by
  refine mCt.eq ?_
  refine mMt.of pl_4 (Nat.le_of_ble_eq_true rfl) ?_
  show mRun mZt mX4_init 0 [some (mr n), some (mi 8), none] [] (σ ++ (.inl (4, [some none, none])) :: [], mI0) _
  refine mRun.go (q_aload_n dX4_init_0 rfl rfl) ?_
  refine mRun.go (q_objInit dX4_init_1 gw_188 gw_23 gw_24 (Nat.le_of_ble_eq_true rfl) (Nat.le_of_ble_eq_true rfl) (Nat.le_of_ble_eq_true rfl)) ?_
  refine mRun.go (q_aload_n dX4_init_4 rfl rfl) ?_
  refine mRun.go (q_iload_n dX4_init_5 rfl rfl) ?_
  refine mRun.go (q_if_le_f (tgt := 13) dX4_init_6 (by decide) (by decide) (by decide)) ?_
  refine mRun.go (q_iload_n dX4_init_9 rfl rfl) ?_
  refine mRun.go (q_goto (tgt := 14) dX4_init_10 (by decide)) ?_
  refine mRun.go (n_arrR (q := (RX0, TX0, 4)) (kk := 8) (t := 2) hn (j := 0) rfl dX4_init_14 (Or.inr rfl) rfl gw_189 (by decide) dX4_init_17 fo_X4_9 fp_4_0 (Or.inr ⟨_, rfl⟩) rfl rfl) ?_
  refine mRun.go (q_iconst dX4_init_20) ?_
  refine mRun.go (q_istore_n (ls' := [some (mr n), some (mi 8), some (mi 0)]) dX4_init_21 rfl (Nat.le_of_ble_eq_true rfl) rfl) ?_
  show mRun mZt mX4_init 22 [some (mr n), some (mi 8), some (mi (0))] [] (σ ++ (.inl (4, [some (some (n + 1)), none]) :: [.inr (.inr (2, [none, none, none, none, none, none, none, none]))]), mI0) _
  refine mRun.go (q_iload_n dX4_init_22 rfl rfl) ?_
  refine mRun.go (q_aload_n dX4_init_23 rfl rfl) ?_
  refine mRun.go (q_getR dX4_init_24 fo_X4_9 (get_at0 σ _ _ hn) rfl) ?_
  refine mRun.go (q_alenRE (n := 8) dX4_init_27 ((get_at σ _ (k := 1) hn).trans rfl) (Or.inr rfl) rfl) ?_
  refine mRun.go (q_icmp_ge_f (tgt := 50) dX4_init_28 (by decide) (by decide) (by decide) (by decide)) ?_
  refine mRun.go (q_aload_n dX4_init_31 rfl rfl) ?_
  refine mRun.go (q_getR dX4_init_32 fo_X4_9 (get_at0 σ _ _ hn) rfl) ?_
  refine mRun.go (q_iload_n dX4_init_35 rfl rfl) ?_
  refine mRun.go (n_el (ci := 0) (q := (RX0, TX0, 4)) (p := 1) (t := 2) (j := 2) (b := bForest) hn rfl rfl dX4_init_36 rfl gw_189 gw_108 gw_6 rfl fr_0 dX4_init_39 dX4_init_40 co_X4_15 ⟨Nat.le_of_ble_eq_true rfl, Nat.le_of_ble_eq_true rfl⟩ gw_110 rfl rfl (fun σ n hn => c_Forest hn) ⟨_, _, rfl⟩ dX4_init_43 (Or.inr rfl) (rl := 8) rfl (by decide) (by decide) (Nat.le_of_ble_eq_true rfl)) ?_
  rw [List.append_assoc]
  refine mRun.go (q_iinc (ls' := [some (mr n), some (mi 8), some (mi (0 + 1))]) dX4_init_44 rfl (Nat.le_of_ble_eq_true rfl) rfl) ?_
  refine mRun.go (q_goto (tgt := 22) dX4_init_47 (by decide)) ?_
  show mRun mZt mX4_init 22 [some (mr n), some (mi 8), some (mi (0 + 1))] [] (σ ++ (.inl (4, [some (some (n + 1)), none]) :: ([.inr (.inr (2, [some (n + 2), none, none, none, none, none, none, none]))] ++ bForest (n + 2))), mI0) _
  refine mRun.go (q_iload_n dX4_init_22 rfl rfl) ?_
  refine mRun.go (q_aload_n dX4_init_23 rfl rfl) ?_
  refine mRun.go (q_getR dX4_init_24 fo_X4_9 (get_at0 σ _ _ hn) rfl) ?_
  refine mRun.go (q_alenRE (n := 8) dX4_init_27 ((get_at σ _ (k := 1) hn).trans rfl) (Or.inr rfl) rfl) ?_
  refine mRun.go (q_icmp_ge_f (tgt := 50) dX4_init_28 (by decide) (by decide) (by decide) (by decide)) ?_
  refine mRun.go (q_aload_n dX4_init_31 rfl rfl) ?_
  refine mRun.go (q_getR dX4_init_32 fo_X4_9 (get_at0 σ _ _ hn) rfl) ?_
  refine mRun.go (q_iload_n dX4_init_35 rfl rfl) ?_
  refine mRun.go (n_el (ci := 0) (q := (RX0, TX0, 4)) (p := 1) (t := 2) (j := 10) (b := bForest) hn rfl rfl dX4_init_36 rfl gw_189 gw_108 gw_6 rfl fr_0 dX4_init_39 dX4_init_40 co_X4_15 ⟨Nat.le_of_ble_eq_true rfl, Nat.le_of_ble_eq_true rfl⟩ gw_110 rfl rfl (fun σ n hn => c_Forest hn) ⟨_, _, rfl⟩ dX4_init_43 (Or.inr rfl) (rl := 8) rfl (by decide) (by decide) (Nat.le_of_ble_eq_true rfl)) ?_
  rw [List.append_assoc]
  refine mRun.go (q_iinc (ls' := [some (mr n), some (mi 8), some (mi (0 + 1 + 1))]) dX4_init_44 rfl (Nat.le_of_ble_eq_true rfl) rfl) ?_
  refine mRun.go (q_goto (tgt := 22) dX4_init_47 (by decide)) ?_
  show mRun mZt mX4_init 22 [some (mr n), some (mi 8), some (mi (0 + 1 + 1))] [] (σ ++ (.inl (4, [some (some (n + 1)), none]) :: (([.inr (.inr (2, [some (n + 2), some (n + 10), none, none, none, none, none, none]))] ++ bForest (n + 2)) ++ bForest (n + 10))), mI0) _
  refine mRun.go (q_iload_n dX4_init_22 rfl rfl) ?_
  refine mRun.go (q_aload_n dX4_init_23 rfl rfl) ?_
  refine mRun.go (q_getR dX4_init_24 fo_X4_9 (get_at0 σ _ _ hn) rfl) ?_
  refine mRun.go (q_alenRE (n := 8) dX4_init_27 ((get_at σ _ (k := 1) hn).trans rfl) (Or.inr rfl) rfl) ?_
  refine mRun.go (q_icmp_ge_f (tgt := 50) dX4_init_28 (by decide) (by decide) (by decide) (by decide)) ?_
  refine mRun.go (q_aload_n dX4_init_31 rfl rfl) ?_
  refine mRun.go (q_getR dX4_init_32 fo_X4_9 (get_at0 σ _ _ hn) rfl) ?_
  refine mRun.go (q_iload_n dX4_init_35 rfl rfl) ?_
  refine mRun.go (n_el (ci := 0) (q := (RX0, TX0, 4)) (p := 1) (t := 2) (j := 18) (b := bForest) hn rfl rfl dX4_init_36 rfl gw_189 gw_108 gw_6 rfl fr_0 dX4_init_39 dX4_init_40 co_X4_15 ⟨Nat.le_of_ble_eq_true rfl, Nat.le_of_ble_eq_true rfl⟩ gw_110 rfl rfl (fun σ n hn => c_Forest hn) ⟨_, _, rfl⟩ dX4_init_43 (Or.inr rfl) (rl := 8) rfl (by decide) (by decide) (Nat.le_of_ble_eq_true rfl)) ?_
  rw [List.append_assoc]
  refine mRun.go (q_iinc (ls' := [some (mr n), some (mi 8), some (mi (0 + 1 + 1 + 1))]) dX4_init_44 rfl (Nat.le_of_ble_eq_true rfl) rfl) ?_
  refine mRun.go (q_goto (tgt := 22) dX4_init_47 (by decide)) ?_
  show mRun mZt mX4_init 22 [some (mr n), some (mi 8), some (mi (0 + 1 + 1 + 1))] [] (σ ++ (.inl (4, [some (some (n + 1)), none]) :: ((([.inr (.inr (2, [some (n + 2), some (n + 10), some (n + 18), none, none, none, none, none]))] ++ bForest (n + 2)) ++ bForest (n + 10)) ++ bForest (n + 18))), mI0) _
  refine mRun.go (q_iload_n dX4_init_22 rfl rfl) ?_
  refine mRun.go (q_aload_n dX4_init_23 rfl rfl) ?_
  refine mRun.go (q_getR dX4_init_24 fo_X4_9 (get_at0 σ _ _ hn) rfl) ?_
  refine mRun.go (q_alenRE (n := 8) dX4_init_27 ((get_at σ _ (k := 1) hn).trans rfl) (Or.inr rfl) rfl) ?_
  refine mRun.go (q_icmp_ge_f (tgt := 50) dX4_init_28 (by decide) (by decide) (by decide) (by decide)) ?_
  refine mRun.go (q_aload_n dX4_init_31 rfl rfl) ?_
  refine mRun.go (q_getR dX4_init_32 fo_X4_9 (get_at0 σ _ _ hn) rfl) ?_
  refine mRun.go (q_iload_n dX4_init_35 rfl rfl) ?_
  refine mRun.go (n_el (ci := 0) (q := (RX0, TX0, 4)) (p := 1) (t := 2) (j := 26) (b := bForest) hn rfl rfl dX4_init_36 rfl gw_189 gw_108 gw_6 rfl fr_0 dX4_init_39 dX4_init_40 co_X4_15 ⟨Nat.le_of_ble_eq_true rfl, Nat.le_of_ble_eq_true rfl⟩ gw_110 rfl rfl (fun σ n hn => c_Forest hn) ⟨_, _, rfl⟩ dX4_init_43 (Or.inr rfl) (rl := 8) rfl (by decide) (by decide) (Nat.le_of_ble_eq_true rfl)) ?_
  rw [List.append_assoc]
  refine mRun.go (q_iinc (ls' := [some (mr n), some (mi 8), some (mi (0 + 1 + 1 + 1 + 1))]) dX4_init_44 rfl (Nat.le_of_ble_eq_true rfl) rfl) ?_
  refine mRun.go (q_goto (tgt := 22) dX4_init_47 (by decide)) ?_
  show mRun mZt mX4_init 22 [some (mr n), some (mi 8), some (mi (0 + 1 + 1 + 1 + 1))] [] (σ ++ (.inl (4, [some (some (n + 1)), none]) :: (((([.inr (.inr (2, [some (n + 2), some (n + 10), some (n + 18), some (n + 26), none, none, none, none]))] ++ bForest (n + 2)) ++ bForest (n + 10)) ++ bForest (n + 18)) ++ bForest (n + 26))), mI0) _
  refine mRun.go (q_iload_n dX4_init_22 rfl rfl) ?_
  refine mRun.go (q_aload_n dX4_init_23 rfl rfl) ?_
  refine mRun.go (q_getR dX4_init_24 fo_X4_9 (get_at0 σ _ _ hn) rfl) ?_
  refine mRun.go (q_alenRE (n := 8) dX4_init_27 ((get_at σ _ (k := 1) hn).trans rfl) (Or.inr rfl) rfl) ?_
  refine mRun.go (q_icmp_ge_f (tgt := 50) dX4_init_28 (by decide) (by decide) (by decide) (by decide)) ?_
  refine mRun.go (q_aload_n dX4_init_31 rfl rfl) ?_
  refine mRun.go (q_getR dX4_init_32 fo_X4_9 (get_at0 σ _ _ hn) rfl) ?_
  refine mRun.go (q_iload_n dX4_init_35 rfl rfl) ?_
  refine mRun.go (n_el (ci := 0) (q := (RX0, TX0, 4)) (p := 1) (t := 2) (j := 34) (b := bForest) hn rfl rfl dX4_init_36 rfl gw_189 gw_108 gw_6 rfl fr_0 dX4_init_39 dX4_init_40 co_X4_15 ⟨Nat.le_of_ble_eq_true rfl, Nat.le_of_ble_eq_true rfl⟩ gw_110 rfl rfl (fun σ n hn => c_Forest hn) ⟨_, _, rfl⟩ dX4_init_43 (Or.inr rfl) (rl := 8) rfl (by decide) (by decide) (Nat.le_of_ble_eq_true rfl)) ?_
  rw [List.append_assoc]
  refine mRun.go (q_iinc (ls' := [some (mr n), some (mi 8), some (mi (0 + 1 + 1 + 1 + 1 + 1))]) dX4_init_44 rfl (Nat.le_of_ble_eq_true rfl) rfl) ?_
  refine mRun.go (q_goto (tgt := 22) dX4_init_47 (by decide)) ?_
  show mRun mZt mX4_init 22 [some (mr n), some (mi 8), some (mi (0 + 1 + 1 + 1 + 1 + 1))] [] (σ ++ (.inl (4, [some (some (n + 1)), none]) :: ((((([.inr (.inr (2, [some (n + 2), some (n + 10), some (n + 18), some (n + 26), some (n + 34), none, none, none]))] ++ bForest (n + 2)) ++ bForest (n + 10)) ++ bForest (n + 18)) ++ bForest (n + 26)) ++ bForest (n + 34))), mI0) _
  refine mRun.go (q_iload_n dX4_init_22 rfl rfl) ?_
  refine mRun.go (q_aload_n dX4_init_23 rfl rfl) ?_
  refine mRun.go (q_getR dX4_init_24 fo_X4_9 (get_at0 σ _ _ hn) rfl) ?_
  refine mRun.go (q_alenRE (n := 8) dX4_init_27 ((get_at σ _ (k := 1) hn).trans rfl) (Or.inr rfl) rfl) ?_
  refine mRun.go (q_icmp_ge_f (tgt := 50) dX4_init_28 (by decide) (by decide) (by decide) (by decide)) ?_
  refine mRun.go (q_aload_n dX4_init_31 rfl rfl) ?_
  refine mRun.go (q_getR dX4_init_32 fo_X4_9 (get_at0 σ _ _ hn) rfl) ?_
  refine mRun.go (q_iload_n dX4_init_35 rfl rfl) ?_
  refine mRun.go (n_el (ci := 0) (q := (RX0, TX0, 4)) (p := 1) (t := 2) (j := 42) (b := bForest) hn rfl rfl dX4_init_36 rfl gw_189 gw_108 gw_6 rfl fr_0 dX4_init_39 dX4_init_40 co_X4_15 ⟨Nat.le_of_ble_eq_true rfl, Nat.le_of_ble_eq_true rfl⟩ gw_110 rfl rfl (fun σ n hn => c_Forest hn) ⟨_, _, rfl⟩ dX4_init_43 (Or.inr rfl) (rl := 8) rfl (by decide) (by decide) (Nat.le_of_ble_eq_true rfl)) ?_
  rw [List.append_assoc]
  refine mRun.go (q_iinc (ls' := [some (mr n), some (mi 8), some (mi (0 + 1 + 1 + 1 + 1 + 1 + 1))]) dX4_init_44 rfl (Nat.le_of_ble_eq_true rfl) rfl) ?_
  refine mRun.go (q_goto (tgt := 22) dX4_init_47 (by decide)) ?_
  show mRun mZt mX4_init 22 [some (mr n), some (mi 8), some (mi (0 + 1 + 1 + 1 + 1 + 1 + 1))] [] (σ ++ (.inl (4, [some (some (n + 1)), none]) :: (((((([.inr (.inr (2, [some (n + 2), some (n + 10), some (n + 18), some (n + 26), some (n + 34), some (n + 42), none, none]))] ++ bForest (n + 2)) ++ bForest (n + 10)) ++ bForest (n + 18)) ++ bForest (n + 26)) ++ bForest (n + 34)) ++ bForest (n + 42))), mI0) _
  refine mRun.go (q_iload_n dX4_init_22 rfl rfl) ?_
  refine mRun.go (q_aload_n dX4_init_23 rfl rfl) ?_
  refine mRun.go (q_getR dX4_init_24 fo_X4_9 (get_at0 σ _ _ hn) rfl) ?_
  refine mRun.go (q_alenRE (n := 8) dX4_init_27 ((get_at σ _ (k := 1) hn).trans rfl) (Or.inr rfl) rfl) ?_
  refine mRun.go (q_icmp_ge_f (tgt := 50) dX4_init_28 (by decide) (by decide) (by decide) (by decide)) ?_
  refine mRun.go (q_aload_n dX4_init_31 rfl rfl) ?_
  refine mRun.go (q_getR dX4_init_32 fo_X4_9 (get_at0 σ _ _ hn) rfl) ?_
  refine mRun.go (q_iload_n dX4_init_35 rfl rfl) ?_
  refine mRun.go (n_el (ci := 0) (q := (RX0, TX0, 4)) (p := 1) (t := 2) (j := 50) (b := bForest) hn rfl rfl dX4_init_36 rfl gw_189 gw_108 gw_6 rfl fr_0 dX4_init_39 dX4_init_40 co_X4_15 ⟨Nat.le_of_ble_eq_true rfl, Nat.le_of_ble_eq_true rfl⟩ gw_110 rfl rfl (fun σ n hn => c_Forest hn) ⟨_, _, rfl⟩ dX4_init_43 (Or.inr rfl) (rl := 8) rfl (by decide) (by decide) (Nat.le_of_ble_eq_true rfl)) ?_
  rw [List.append_assoc]
  refine mRun.go (q_iinc (ls' := [some (mr n), some (mi 8), some (mi (0 + 1 + 1 + 1 + 1 + 1 + 1 + 1))]) dX4_init_44 rfl (Nat.le_of_ble_eq_true rfl) rfl) ?_
  refine mRun.go (q_goto (tgt := 22) dX4_init_47 (by decide)) ?_
  show mRun mZt mX4_init 22 [some (mr n), some (mi 8), some (mi (0 + 1 + 1 + 1 + 1 + 1 + 1 + 1))] [] (σ ++ (.inl (4, [some (some (n + 1)), none]) :: ((((((([.inr (.inr (2, [some (n + 2), some (n + 10), some (n + 18), some (n + 26), some (n + 34), some (n + 42), some (n + 50), none]))] ++ bForest (n + 2)) ++ bForest (n + 10)) ++ bForest (n + 18)) ++ bForest (n + 26)) ++ bForest (n + 34)) ++ bForest (n + 42)) ++ bForest (n + 50))), mI0) _
  refine mRun.go (q_iload_n dX4_init_22 rfl rfl) ?_
  refine mRun.go (q_aload_n dX4_init_23 rfl rfl) ?_
  refine mRun.go (q_getR dX4_init_24 fo_X4_9 (get_at0 σ _ _ hn) rfl) ?_
  refine mRun.go (q_alenRE (n := 8) dX4_init_27 ((get_at σ _ (k := 1) hn).trans rfl) (Or.inr rfl) rfl) ?_
  refine mRun.go (q_icmp_ge_f (tgt := 50) dX4_init_28 (by decide) (by decide) (by decide) (by decide)) ?_
  refine mRun.go (q_aload_n dX4_init_31 rfl rfl) ?_
  refine mRun.go (q_getR dX4_init_32 fo_X4_9 (get_at0 σ _ _ hn) rfl) ?_
  refine mRun.go (q_iload_n dX4_init_35 rfl rfl) ?_
  refine mRun.go (n_el (ci := 0) (q := (RX0, TX0, 4)) (p := 1) (t := 2) (j := 58) (b := bForest) hn rfl rfl dX4_init_36 rfl gw_189 gw_108 gw_6 rfl fr_0 dX4_init_39 dX4_init_40 co_X4_15 ⟨Nat.le_of_ble_eq_true rfl, Nat.le_of_ble_eq_true rfl⟩ gw_110 rfl rfl (fun σ n hn => c_Forest hn) ⟨_, _, rfl⟩ dX4_init_43 (Or.inr rfl) (rl := 8) rfl (by decide) (by decide) (Nat.le_of_ble_eq_true rfl)) ?_
  rw [List.append_assoc]
  refine mRun.go (q_iinc (ls' := [some (mr n), some (mi 8), some (mi (0 + 1 + 1 + 1 + 1 + 1 + 1 + 1 + 1))]) dX4_init_44 rfl (Nat.le_of_ble_eq_true rfl) rfl) ?_
  refine mRun.go (q_goto (tgt := 22) dX4_init_47 (by decide)) ?_
  show mRun mZt mX4_init 22 [some (mr n), some (mi 8), some (mi (0 + 1 + 1 + 1 + 1 + 1 + 1 + 1 + 1))] [] (σ ++ (.inl (4, [some (some (n + 1)), none]) :: (((((((([.inr (.inr (2, [some (n + 2), some (n + 10), some (n + 18), some (n + 26), some (n + 34), some (n + 42), some (n + 50), some (n + 58)]))] ++ bForest (n + 2)) ++ bForest (n + 10)) ++ bForest (n + 18)) ++ bForest (n + 26)) ++ bForest (n + 34)) ++ bForest (n + 42)) ++ bForest (n + 50)) ++ bForest (n + 58))), mI0) _
  refine mRun.go (q_iload_n dX4_init_22 rfl rfl) ?_
  refine mRun.go (q_aload_n dX4_init_23 rfl rfl) ?_
  refine mRun.go (q_getR dX4_init_24 fo_X4_9 (get_at0 σ _ _ hn) rfl) ?_
  refine mRun.go (q_alenRE (n := 8) dX4_init_27 ((get_at σ _ (k := 1) hn).trans rfl) (Or.inr rfl) rfl) ?_
  refine mRun.go (q_icmp_ge_t (tgt := 50) dX4_init_28 (by decide) (by decide) (by decide) (by decide)) ?_
  exact r_ret dX4_init_50 rfl ⟨rfl, rfl⟩
