/-! ===== the law: its end, its loop ===== -/
/-! THE CLAIM OUT OF ONE WALK OF THE LAW'S BODY. Your part is whole_start (and what it stands on); all else here is the same for every law, but numbers. -/
def R_law : String := "DrumMapsLaw"
def lw_P (b : Addr) (xs : List Int32) (args : Array Value) (s : State) : Prop := args = #[.ref b] ∧ s.IntsAt b xs ∧ xs.length ≤ 2560 ∧ (Jvm.Cond.and given_1 narrow_1).before args s = true
def lw_Q (_ : Array Value) (s : State) (o : Outcome) (t : State) : Prop := o = .returned (some (.int 1)) ∧ Framed s o t [] 600000 7302250
def lw_Z (below : List Frame) (a : Array Value) (s : State) : State → Prop := fun t => ∃ o, t.status = .running ∧ Ended t below o ∧ lw_Q a s o t
/-- the law's own end, with 1 on the stack, nothing written that was there before, its room as the claim has it -/
theorem lw_ret {p : Program} {l : Launch} {e : Env} {s : State} {m : MethodId} {below : List Frame} {meth : Method} {c : Code} {b : Nat} (hx : p.tables.exec = Jvm.exec) (hb : c.code = code) (hr : meth.sig.returnType = ret) (hlocks : meth.locks = false) {pc : Nat} {H : Heap} {ls : Array Slot} (hdg : decode code pc = .ok (.ireturn, 1)) : W p l e room_1 s m #[Value.ref b] below meth c H [] 600000 7302250 (lw_Z below #[Value.ref b] s) (F0 m pc ls [.int 1]) := by
  intro T hT X
  obtain ⟨fs, hret, hrun, hended, hW, hframe⟩ := X.leave (v := some (.int 1)) (hlocks := hlocks) (fun h => by rw [hr] at h; cases h)
  have hmeth' : T.vm.method? m = some meth := X.method'
  refine ⟨T.setFrames fs, ?_, .returned (some (.int 1)), hrun, hended, rfl, ⟨_, rfl⟩, hW, hframe⟩
  jvm_step X.here [X.here.top, hx, hb, hdg, hmeth', hr, ret, narrow_b1]
  (try refine ⟨rfl, ?_⟩); (try refine ⟨rfl, ?_⟩)
  first | (intro acts; rw [hret _ acts rfl rfl rfl]) | rw [hret _ _ rfl rfl rfl]
  exact Steps.refl _
/-- what holds at the law's entry: the machine, the code, the tables' words (any of lw_tbl by 'hts w (by decide +kernel)'), the script of L ints xs at the cell b, what the Statement gives of the start (any of its parts by flat_of_before) -/
def lw_At (p : Program) (s : State) (m : MethodId) (meth : Method) (c : Code) (b L : Nat) (xs : Nat → Int32) : Prop :=
  p.tables.exec = Jvm.exec ∧ c.code = code ∧ meth.sig.returnType = ret ∧ c.maxLocals = 4 ∧ s.vm.findClass R_law = some m.cls ∧ (∀ w ∈ lw_tbl, w.before #[Value.ref b] s = true) ∧ va_X b L xs s s.heap ∧ b < s.heap.size ∧ meth.locks = false ∧ (Jvm.Cond.and given_1 narrow_1).before #[Value.ref b] s = true
section LAWL
variable {p : Program} {l : Launch} {e : Env} {s : State} {m : MethodId} {below : List Frame} {meth : Method} {c : Code} {P : mP} {D : va_G} {b L : Nat} {xs : Nat → Int32}
/-- the law's end: true -/
theorem l_end (X : LX P D p s m c b L xs) (hr : meth.sig.returnType = ret) (hlk : meth.locks = false) {lv : List (Nat × Value)} {h : mH} (hcs : h.1.length ≤ 600000 ∧ mS h ≤ 7302250) : LW p l e s m below meth c (lw_Z below #[Value.ref b] s) P D b lv 1115 [] h := by
  intro H locs la hl hR hV
  refine lv_iconst (v := 1) X.1 X.2.1 dL_law_1115 rfl ?_
  refine va_forget (fun q hq => ?_) ?_
  · have h1 : P.1 ≤ q.base := hV.2.2 q hq
    have h2 := X.2.2.2.2.2.2.2.2.2
    omega
  · refine W.widen (k := 600000) (n := 7302250) hcs.1 hcs.2 ?_
    exact lw_ret X.1 X.2.1 hr hlk dL_law_1116
theorem l_off {v off : Int} {T tgt : Nat} (h : some v = some off) (e : (32 : Int) + v = (T : Int)) (ht : ((32 : Nat) : Int) + off = (tgt : Int)) : T = tgt := by
  cases h
  omega
/-- the law's loop: as long as there is another call -/
theorem l_loop (X : LX P D p s m c b L xs) (hL : L ≤ 2560) (hr : meth.sig.returnType = ret) (hlk : meth.locks = false) : ∀ (n k : Nat) (σ : List mC) (I : mI) (S : Sx), L + 5 - 5 * k < n → 5 * k ≤ L → LI σ I S → SxOk ((24 * k : Nat) : Int) S → LW p l e s m below meth c (lw_Z below #[Value.ref b] s) P D b (lvI P b (5 * k)) 18 [] (σ, I) := by
  intro n
  induction n with
  | zero => intro k σ I S hn; omega
  | succ n ih =>
    intro k σ I S hn hk hI hS
    refine l_test X (i := 5 * k) (by omega) hL (fun _ => l_end X hr hlk (ls_ok hI.1)) (fun hi => ?_)
    have hB : (0 : Int) ≤ ((24 * k : Nat) : Int) ∧ ((24 * k : Nat) : Int) ≤ 1000000 := by omega
    have kn : ∀ (σ : List mC) (K : mI) (Z : Sx), LI σ K Z → SxOk (((24 * k : Nat) : Int) + 24) Z → LW p l e s m below meth c (lw_Z below #[Value.ref b] s) P D b (lvI P b (5 * k)) 1109 [] (σ, K) := fun σ K Z h1 h2 => l_next X (by omega) (ih (k + 1) σ K Z (by omega) (by omega) h1 (h2.mono (by omega)))
    refine l_sw X hi hL (fun j tgt off hj ho ht => ?_) (kn σ I S hI (hS.mono (by omega)))
    rcases (show j = 0 ∨ j = 1 ∨ j = 2 ∨ j = 3 ∨ j = 4 ∨ j = 5 ∨ j = 6 ∨ j = 7 ∨ j = 8 ∨ j = 9 ∨ j = 10 ∨ j = 11 ∨ j = 12 ∨ j = 13 ∨ j = 14 ∨ j = 15 ∨ j = 16 ∨ j = 17 ∨ j = 18 ∨ j = 19 ∨ j = 20 ∨ j = 21 ∨ j = 22 ∨ j = 23 ∨ j = 24 ∨ j = 25 ∨ j = 26 ∨ j = 27 ∨ j = 28 ∨ j = 29 ∨ j = 30 ∨ j = 31 ∨ j = 32 by omega) with rfl | rfl | rfl | rfl | rfl | rfl | rfl | rfl | rfl | rfl | rfl | rfl | rfl | rfl | rfl | rfl | rfl | rfl | rfl | rfl | rfl | rfl | rfl | rfl | rfl | rfl | rfl | rfl | rfl | rfl | rfl | rfl | rfl
    · obtain rfl := l_off (v := 148) (T := 180) ho (by decide) ht
      exact lc_write X hI hS hB hi hL kn
    · obtain rfl := l_off (v := 171) (T := 203) ho (by decide) ht
      exact lc_wipe X hI hS hB hi hL kn
    · obtain rfl := l_off (v := 184) (T := 216) ho (by decide) ht
      exact lc_fault X hI hS hB hi hL kn
    · obtain rfl := l_off (v := 197) (T := 229) ho (by decide) ht
      exact lc_lay X hI hS hB hi hL kn
    · obtain rfl := l_off (v := 210) (T := 242) ho (by decide) ht
      exact lc_place X hI hS hB hi hL kn
    · obtain rfl := l_off (v := 233) (T := 265) ho (by decide) ht
      exact lc_drum X hI hS hB hi hL kn
    · obtain rfl := l_off (v := 276) (T := 308) ho (by decide) ht
      exact lc_kind X hI hS hB hi hL kn
    · obtain rfl := l_off (v := 299) (T := 331) ho (by decide) ht
      exact lc_traveller X hI hS hB hi hL kn
    · obtain rfl := l_off (v := 332) (T := 364) ho (by decide) ht
      exact lc_route X hI hS hB hi hL kn
    · obtain rfl := l_off (v := 385) (T := 417) ho (by decide) ht
      exact lc_truth X hI hS hB hi hL kn
    · obtain rfl := l_off (v := 418) (T := 450) ho (by decide) ht
      exact lc_pass X hI hS hB hi hL kn
    · obtain rfl := l_off (v := 441) (T := 473) ho (by decide) ht
      exact lc_rain X hI hS hB hi hL kn
    · obtain rfl := l_off (v := 464) (T := 496) ho (by decide) ht
      exact lc_retune X hI hS hB hi hL kn
    · obtain rfl := l_off (v := 507) (T := 539) ho (by decide) ht
      exact lc_give X hI hS hB hi hL kn
    · obtain rfl := l_off (v := 540) (T := 572) ho (by decide) ht
      exact lc_send X hI hS hB hi hL kn
    · obtain rfl := l_off (v := 573) (T := 605) ho (by decide) ht
      exact lc_undo X hI hS hB hi hL kn
    · obtain rfl := l_off (v := 586) (T := 618) ho (by decide) ht
      exact lc_arrives X hI hS hB hi hL kn
    · obtain rfl := l_off (v := 609) (T := 641) ho (by decide) ht
      exact lc_loses X hI hS hB hi hL kn
    · obtain rfl := l_off (v := 632) (T := 664) ho (by decide) ht
      exact lc_led X hI hS hB hi hL kn
    · obtain rfl := l_off (v := 675) (T := 707) ho (by decide) ht
      exact lc_fastest X hI hS hB hi hL kn
    · obtain rfl := l_off (v := 698) (T := 730) ho (by decide) ht
      exact lc_tune X hI hS hB hi hL kn
    · obtain rfl := l_off (v := 721) (T := 753) ho (by decide) ht
      exact lc_meet X hI hS hB hi hL kn
    · obtain rfl := l_off (v := 754) (T := 786) ho (by decide) ht
      exact lc_clash X hI hS hB hi hL kn
    · obtain rfl := l_off (v := 797) (T := 829) ho (by decide) ht
      exact lc_right X hI hS hB hi hL kn
    · obtain rfl := l_off (v := 830) (T := 862) ho (by decide) ht
      exact lc_hear X hI hS hB hi hL kn
    · obtain rfl := l_off (v := 863) (T := 895) ho (by decide) ht
      exact lc_forget X hI hS hB hi hL kn
    · obtain rfl := l_off (v := 876) (T := 908) ho (by decide) ht
      exact lc_which X hI hS hB hi hL kn
    · obtain rfl := l_off (v := 889) (T := 921) ho (by decide) ht
      exact lc_seen X hI hS hB hi hL kn
    · obtain rfl := l_off (v := 932) (T := 964) ho (by decide) ht
      exact lc_rains X hI hS hB hi hL kn
    · obtain rfl := l_off (v := 985) (T := 1017) ho (by decide) ht
      exact lc_year X hI hS hB hi hL kn
    · obtain rfl := l_off (v := 1028) (T := 1060) ho (by decide) ht
      exact lc_keep X hI hS hB hi hL kn
    · obtain rfl := l_off (v := 1041) (T := 1073) ho (by decide) ht
      exact lc_back X hI hS hB hi hL kn
    · obtain rfl := l_off (v := 1054) (T := 1086) ho (by decide) ht
      exact lc_count X hI hS hB hi hL kn
end LAWL
