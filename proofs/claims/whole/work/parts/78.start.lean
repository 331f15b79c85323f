/-! ===== the law from its entry ===== -/
theorem bA_dm : IsDM bAll := by
  refine ⟨rfl, ⟨⟨rfl, rfl⟩, rfl, ⟨rfl, ⟨rfl, rfl⟩, ⟨rfl, rfl⟩, ⟨rfl, rfl⟩⟩, ⟨rfl, ⟨rfl, rfl⟩, rfl, fun t ht => ?_⟩, ⟨rfl, rfl⟩⟩, ⟨rfl, ⟨rfl, rfl⟩, ⟨rfl, rfl⟩, ⟨rfl, rfl⟩⟩, ⟨rfl, ⟨rfl, rfl⟩, rfl, fun t ht => ?_⟩, fun i hi => ?_, ⟨rfl, rfl⟩, ⟨rfl, ⟨rfl, rfl⟩, rfl, fun t ht => ?_⟩, ⟨rfl, ⟨rfl, rfl⟩, rfl, fun t ht => ?_⟩, ⟨rfl, rfl⟩, ⟨rfl, rfl⟩, ⟨rfl, ⟨rfl, rfl⟩, rfl, fun t ht => ?_⟩, rfl, rfl, ⟨rfl, ⟨rfl, rfl⟩, ⟨rfl, rfl⟩⟩, ⟨rfl, ⟨rfl, rfl⟩, ⟨rfl, rfl⟩⟩⟩
  · match t, ht with
    | 0, _ => rfl
    | 1, _ => rfl
    | 2, _ => rfl
    | 3, _ => rfl
    | _ + 4, h => exact absurd h (by omega)
  · match t, ht with
    | 0, _ => rfl
    | 1, _ => rfl
    | 2, _ => rfl
    | 3, _ => rfl
    | _ + 4, h => exact absurd h (by omega)
  · have key : ∀ f : Nat, (f = 38 ∨ f = 46 ∨ f = 54 ∨ f = 62 ∨ f = 70 ∨ f = 78 ∨ f = 86 ∨ f = 94) → IsForest bAll f := by
      intro f hf
      rcases hf with rfl | rfl | rfl | rfl | rfl | rfl | rfl | rfl <;> exact ⟨rfl, ⟨rfl, rfl⟩, rfl, fun t ht => by
        match t, ht with
        | 0, _ => rfl
        | 1, _ => rfl
        | 2, _ => rfl
        | 3, _ => rfl
        | _ + 4, h => exact absurd h (by omega)⟩
    exact key _ (by omega)
  · match t, ht with
    | 0, _ => rfl
    | 1, _ => rfl
    | 2, _ => rfl
    | 3, _ => rfl
    | _ + 4, h => exact absurd h (by omega)
  · match t, ht with
    | 0, _ => rfl
    | 1, _ => rfl
    | 2, _ => rfl
    | 3, _ => rfl
    | _ + 4, h => exact absurd h (by omega)
  · match t, ht with
    | 0, _ => rfl
    | 1, _ => rfl
    | 2, _ => rfl
    | 3, _ => rfl
    | _ + 4, h => exact absurd h (by omega)
theorem bA_sh : IsShelf bAll 36 [some (38 + 8 * 0), some (38 + 8 * 1), some (38 + 8 * 2), some (38 + 8 * 3), some (38 + 8 * 4), some (38 + 8 * 5), some (38 + 8 * 6), some (38 + 8 * 7)] := ⟨rfl, rfl⟩
theorem bD_sz : bDrum.length ≤ 600000 ∧ (bDrum.map msz).sum + 30 ≤ 7302250 ∧ (bDrum.map msz).sum ≤ 7302250 := by decide +kernel
theorem mcl_i (ci : Nat) (q : vw_C) (h : mcl[ci]? = some q) : Cond.instantiable q.1 q.2.2 ∈ gtbl := by
  match ci, h with
  | 0, h => cases h; exact gw_108
  | 1, h => cases h; exact gw_48
  | 2, h => cases h; exact gw_42
  | 3, h => cases h; exact gw_54
  | 4, h => cases h; exact gw_184
  | 5, h => cases h; exact gw_26
  | 6, h => cases h; exact gw_117
  | 7, h => cases h; exact gw_205
  | 8, h => cases h; exact gw_18
  | 9, h => cases h; exact gw_733
  | n + 10, h => simp [mcl] at h
theorem w_cls {s : State} {args : Array Value} (hts : ∀ w ∈ gtbl, w.before args s = true) : ∃ D : va_G, ∀ (c : Nat) (q : vw_C), mcl[c]? = some q → u_Kn s q.1 q.2.1 q.2.2 (D.1 c) (D.2 c) := by
  have h : ∀ c : Nat, ∃ x : ClassId × (Nat → Nat), ∀ q : vw_C, mcl[c]? = some q → u_Kn s q.1 q.2.1 q.2.2 x.1 x.2 := by
    intro c
    cases hc : mcl[c]? with
    | none => exact ⟨((0 : Nat), fun _ => 0), fun q h => by cases h⟩
    | some q =>
      obtain ⟨cC, iS, hk⟩ := u_known (n := q.2.2) hts (mcl_ok c q hc).1 (hts _ (mcl_i c q hc))
      exact ⟨(cC, iS), fun q2 h2 => by cases h2; exact hk⟩
  exact ⟨(fun c => (h c).choose.1, fun c => (h c).choose.2), fun c q hq => (h c).choose_spec q hq⟩
theorem w_tys {s : State} {args : Array Value} (hts : ∀ w ∈ lw_tbl, w.before args s = true) : ∃ f : Nat → ClassId, ∀ (k : Nat) (q : ClassId × FieldType), (mtys (s.heap.size, f))[k]? = some q → ArrOfT s q.1 q.2 ∧ va_RA s q.1 q.2 := by
  obtain ⟨cI, kI, compI, i1, i2, i3⟩ := Cond.arrayClass_spec (hts (.arrayClass .int) (by decide +kernel))
  obtain ⟨c6, t6, k6, a1, a2, a3, a4, a5⟩ := Cond.arrayOver_spec (hts (.arrayOver (.object RX6)) (by decide +kernel))
  obtain ⟨c0, t0, k0, b1, b2, b3, b4, b5⟩ := Cond.arrayOver_spec (hts (.arrayOver (.object RX0)) (by decide +kernel))
  refine ⟨fun k => if k = 0 then cI else if k = 1 then t6 else t0, fun k q hq => ?_⟩
  match k, hq with
  | 0, hq => cases hq; exact ⟨fun n z => ⟨fun k h => (by cases h), kI, i2, compI, i3⟩, i1⟩
  | 1, hq => cases hq; exact ⟨fun n z => ⟨fun k h => (by cases h), k6, a3, c6, a4⟩, k6, c6, a3, a4, a1, a5⟩
  | 2, hq => cases hq; exact ⟨fun n z => ⟨fun k h => (by cases h), k0, b3, c0, b4⟩, k0, c0, b3, b4, b1, b5⟩
  | k + 3, hq => simp [mtys] at hq
theorem mNw_in : ∀ w ∈ mNw, w ∈ lw_tbl := by decide +kernel
theorem mNw_t : ∀ w ∈ mNw, w.onTables = true := by decide +kernel
theorem nar_b : ∀ j : Fin 113, Cond.eq (.elem (.field (.string "DrumMaps" 82) "java/lang/String" "value" "[B") (.int (Int32.ofNat j.val))) (.int (mbyt.getD j.val 0)) ∈ flatC (Jvm.Cond.and given_1 narrow_1) := by decide +kernel
theorem w_str {P : mP} {s : State} {args : Array Value} (hts : ∀ w ∈ lw_tbl, w.before args s = true) (hgv : (Jvm.Cond.and given_1 narrow_1).before args s = true) (hP : P.1 = s.heap.size) : mSt P s s.heap := by
  have hs := flat_of_before _ hgv
  have hA : ∀ a : Nat, a < s.heap.size → ¬ mAo P a := fun a ha h => by
    have : P.1 ≤ a := h
    omega
  obtain ⟨adK, adV, h1, h2⟩ := vk_Sof (args := args) (s := s) (N := 1) (tm := fun _ => .string "DrumMaps" 82) (len := [113]) (byt := [mbyt]) (A := mAo P)
    (fun i hi => by obtain rfl : i = 0 := by omega
                    decide)
    (fun i _ => hs _ (by decide +kernel)) (fun i _ => hs _ (by decide +kernel)) (fun i _ => hs _ (by decide +kernel))
    (fun i hi => by obtain rfl : i = 0 := by omega
                    exact hs _ (by decide +kernel))
    (fun i hi j hj => by obtain rfl : i = 0 := by omega
                         exact hs _ (nar_b ⟨j, hj⟩))
    (fun i j hi hj hij => absurd (by omega : i = j) hij) hA
  refine ⟨adK 0, adV 0, vk_R.of (hts (.stringRef RX8 82 mtxt) (by decide +kernel)) (h2 0 (by decide)), ⟨fun i hi => ?_, fun i j hi hj _ => by omega⟩, ?_, ?_⟩
  · obtain rfl : i = 0 := by omega
    exact h1.1 0 hi
  · exact va_Zof (hts (.laysStatic "java/lang/String" "COMPACT_STRINGS" "Z") (by decide +kernel)) (hts (.initialized "java/lang/String") (by decide +kernel)) (va_eqt (hs _ (by decide +kernel))) hA
  · exact va_Zqof (hts (.laysStatic "jdk/internal/util/Preconditions" "SIOOBE_FORMATTER" "Ljava/util/function/BiFunction;") (by decide +kernel)) (hts (.initialized "jdk/internal/util/Preconditions") (by decide +kernel)) (hs _ (by decide +kernel)) hA
set_option maxRecDepth 100000 in
/-- from the entry: two objects, then the loop -/
theorem whole_start {p : Program} {e : Env} {s : State} {m : MethodId} {below : List Frame} {meth : Method} {c : Code} (l : Launch) (hflags : l.flags = flags0) {b L : Nat} {xs : Nat → Int32} (hL : L ≤ 2560) (C0 : lw_At p s m meth c b L xs) : W p l e room_1 s m #[Value.ref b] below meth c s.heap [] 0 0 (lw_Z below #[Value.ref b] s) (entryFrame m ([Value.ref b] : List Value).toArray 4) := by
  obtain ⟨hx, hb, hr, hml, hown, hts, hX, hbl, hlocks, hgv⟩ := id C0
  have hts' : ∀ w ∈ gtbl, w.before #[Value.ref b] s = true := fun w hw => hts w (List.mem_filter.mp hw).1
  obtain ⟨D, hD⟩ := w_cls hts'
  obtain ⟨f, hf⟩ := w_tys hts
  obtain ⟨P, hPf⟩ : ∃ P : mP, P = (s.heap.size, f) := ⟨_, rfl⟩
  have hP1 : P.1 = s.heap.size := by rw [hPf]
  have hK : va_K D mcl (mtys P) s := ⟨hD, by rw [hPf]; exact hf⟩
  have hE : mEX P s s.heap := ⟨fun w hw => va_Nw.of (mNw_t w hw) (hts w (mNw_in w hw)), va_AO.of (hts (.arrayOver (.object RX6)) (by decide +kernel)), va_AO.of (hts (.arrayOver (.object RX0)) (by decide +kernel)), w_str hts hgv hP1⟩
  have X : LX P D p s m c b L xs := ⟨hx, hb, hml, hown, hts', hK, hE, hX, hbl, hP1⟩
  have hl := lv_entry ([.ref b]) (n := 4) (Nat.le_of_ble_eq_true rfl)
  rw [lg_entry_eq]
  generalize (lg_sl ([.ref b]) ++ List.replicate (4 - (lg_sl ([.ref b])).length) Slot.unset).toArray = ls at hl ⊢
  have hl : lv_has ls 4 [(0, .ref b)] := hl
  have hR : mRz P D ([], mI0) s.heap := ⟨hP1.symm, fun k c hk => by simp at hk⟩
  refine (?_ : LW p l e s m below meth c (lw_Z below #[Value.ref b] s) P D b [(0, .ref b)] 0 [] ([], mI0)) s.heap [] ls hl hR va_S.rf
  refine l_new X (σ := []) (I := mI0) (ci := 8) (q := (RX8, TX8, 14)) (fs := [some none, some none, some none, some none, some none, some none, some none, some none, none, some none, some none, some none, some none, some none]) dL_law_0 rfl gw_17 gw_18 gw_1 rfl fr_8 ⟨Nat.le_of_ble_eq_true rfl, Nat.le_of_ble_eq_true rfl⟩ ?_
  rw [mzr_0]
  obtain ⟨v, h', c8, rfl, σ, K, rfl, rfl, hNK, hz, hC⟩ := c_Drum
  refine l_dup X (a := 0) dL_law_3 ?_
  refine l_callI X (r := 0) [] [mr 0] dL_law_4 co_L_9 ⟨Nat.le_of_ble_eq_true rfl, Nat.le_of_ble_eq_true rfl⟩ gw_20 rfl rfl rfl rfl (Nat.le_of_ble_eq_true rfl) c8 ⟨bD_sz.1, bD_sz.2.2⟩ ?_
  refine l_astore X (i := 1) (lv' := [(1, .ref (P.1 + 0)), (0, .ref b)]) dL_law_7 rfl (by decide) rfl ?_
  refine l_new X (σ := bDrum) (I := K) (ci := 9) (q := (RX9, TX9, 30)) (fs := [none, none, some none, none, some none, none, some none, some none, some none, none, some none, none, some none, none, some none, none, none, none, some none, none, some none, some none, none, some none, some none, some none, none, none, none, some none]) dL_law_8 rfl gw_732 gw_733 gw_16 rfl fr_9 ⟨by rw [bD_len]; decide, bD_sz.2.1⟩ ?_
  rw [bD_len, mzr_z (hz 144 (Nat.le_refl 144))]
  obtain ⟨v, h', c9, rfl, K2, rfl, hlo, hM⟩ := c_Model hNK hz
  refine l_dup X (a := 144) dL_law_11 ?_
  refine l_callI X (r := 144) [] [mr 144] dL_law_12 co_L_12 ⟨Nat.le_of_ble_eq_true rfl, Nat.le_of_ble_eq_true rfl⟩ gw_735 rfl rfl rfl rfl (Nat.le_of_ble_eq_true rfl) c9 (ls_ok rfl) ?_
  refine l_astore X (i := 2) (lv' := [(2, .ref (P.1 + 144)), (1, .ref (P.1 + 0)), (0, .ref b)]) dL_law_15 rfl (by decide) rfl ?_
  refine l_iconst X dL_law_16 ?_
  refine l_istore X (i := 3) (lv' := [(3, .int (Int32.ofInt 0)), (2, .ref (P.1 + 144)), (1, .ref (P.1 + 0)), (0, .ref b)]) dL_law_17 rfl (by decide) rfl ?_
  have hI : LI bAll K2 S0 := ⟨rfl, ⟨hM.1, bA_dm, ⟨fun k => k, fun k hk => hk, fun j k _ _ h => h, bA_sh, fun k hk => absurd hk (Nat.not_lt_zero k)⟩, hC.2.2.2.lo S0_ok.1 S0_ok.2.2.2.2.1 hlo⟩, hM⟩
  have kl := l_loop (l := l) (e := e) (below := below) X hL hr hlocks (L + 6) 0 bAll K2 S0 (by omega) (Nat.zero_le L) hI S0_ok
  intro H locs la hl hR hV
  exact kl H locs la (lv_sub hl [3, 2, 1, 0] rfl) hR hV
