/-! from the law's loop, walked in the small machine, to the claim's own walk -/
theorem tp_e_rd {l : Launch} {b : Nat} {st : Nat → Nat} {D : va_G} {ca : FieldType → ClassId} {L : Nat} {xs : Nat → Int} {f f' : Bool} {μ μ' : tp_M} {k : Nat} (h1 : ∀ j, μ'.1 k j = μ.1 k j) (h2 : ∀ j : Nat, tp_rd (l, b, st, D, ca, f', L, xs) μ' k (j : Int) = tp_rd (l, b, st, D, ca, f, L, xs) μ k (j : Int)) : tp_e (l, b, st, D, ca, f', L, xs) μ' k = tp_e (l, b, st, D, ca, f, L, xs) μ k := by
  have had : tp_ad (l, b, st, D, ca, f', L, xs) = tp_ad (l, b, st, D, ca, f, L, xs) := rfl
  simp only [tp_e, tp_fl, tp_fv, tp_ac, h1, h2, had]
theorem tp_rep_rd {l : Launch} {b : Nat} {st : Nat → Nat} {D : va_G} {ca : FieldType → ClassId} {L : Nat} {xs : Nat → Int} {f f' : Bool} {μ μ' : tp_M} {n : Nat} {H : Heap} (h1 : ∀ k, k < n → ∀ j, μ'.1 k j = μ.1 k j) (h2 : ∀ k, k < n → ∀ j : Nat, tp_rd (l, b, st, D, ca, f', L, xs) μ' k (j : Int) = tp_rd (l, b, st, D, ca, f, L, xs) μ k (j : Int)) (h : tp_rep (l, b, st, D, ca, f, L, xs) μ n H) : tp_rep (l, b, st, D, ca, f', L, xs) μ' n H := by
  refine ⟨h.1, ?_⟩
  have e : tp_ws (l, b, st, D, ca, f', L, xs) μ' n = tp_ws (l, b, st, D, ca, f, L, xs) μ n := by
    unfold tp_ws
    refine List.map_congr_left (fun k hk => ?_)
    have hk2 := List.mem_range.mp hk
    rw [tp_e_rd (h1 k hk2) (h2 k hk2)]
  rw [e]
  exact h.2
/-- the constructors are through: what stays for good is where it is said to be -/
theorem tp_phase {l : Launch} {b : Nat} {st : Nat → Nat} {D : va_G} {ca : FieldType → ClassId} {L : Nat} {xs : Nat → Int} {d : tp_D} {pc : Nat} {ls : List (Option tp_V)} {sk : List tp_V} {μ : tp_M} {n bs : Nat} {P : Option tp_V → Prop} (hfin : ∀ k, k < n → ∀ (j r : Nat), tp_RF k (j : Int) = some r → μ.2 k (j : Int) = some r) (k : tp_go (l, b, st, D, ca, true, L, xs) d pc ls sk μ n n bs (fun r _ => P r)) : tp_go (l, b, st, D, ca, false, L, xs) d pc ls sk μ n n bs (fun r _ => P r) := by
  intro p e s m args below meth c H locs cells slots lsA mc ms Z
  obtain ⟨C, hS, hR, hl, hB, hm, hs, hv⟩ := Z
  have hR2 : tp_rep (l, b, st, D, ca, true, L, xs) μ n H := tp_rep_rd (fun _ _ _ => rfl) (fun k hk j => by
    show (match tp_RF k (j : Int) with
      | some r => some r
      | none => μ.2 k (j : Int)) = μ.2 k (j : Int)
    cases hr : tp_RF k (j : Int) with
    | none => rfl
    | some r => exact (hfin k hk j r hr).symm) hR
  have hW := k p e s m args below meth c H locs cells slots lsA mc ms ⟨C, hS, hR2, hl, hB, hm, hs, hv⟩
  intro T hT X
  obtain ⟨t, h1, o, h2, h3, ⟨r, μ', q1, q2, q3, q4, q5, q6⟩, h5⟩ := hW T hT X
  refine ⟨t, h1, o, h2, h3, ⟨r, (μ'.1, fun k j => tp_rd (l, b, st, D, ca, true, L, xs) μ' k j), q1, ?_, q3, q4, q5, q6⟩, h5⟩
  exact tp_rep_rd (fun _ _ _ => rfl) (fun _ _ _ => rfl) q2
theorem tp_RF_big (k j : Nat) (hj : 80 ≤ j) : tp_RF k (j : Int) = none := by
  have h : ∀ q ∈ tp_rfl, q.length ≤ 80 := by decide +kernel
  have h2 : (tp_rfl.getD k []).length ≤ 80 := tp_getD (fun q : List (Option Nat) => q.length ≤ 80) h (by decide) k
  show (tp_rfl.getD k []).getD (j : Int).toNat none = none
  rw [Int.toNat_natCast, List.getD_eq_getElem?_getD, List.getElem?_eq_none (by omega)]
  rfl
def tp_finc (k j : Nat) : Bool := match tp_RF k (j : Int) with
  | none => true
  | some r => decide (tp_mm116.2 k (j : Int) = some r)
set_option maxRecDepth 1000000 in
theorem tp_finc_ok : ∀ k, k < 234 → ∀ j, j < 80 → tp_finc k j = true := by decide +kernel
theorem tp_fin_ok : ∀ k, k < 234 → ∀ (j r : Nat), tp_RF k (j : Int) = some r → tp_mm116.2 k (j : Int) = some r := by
  intro k hk j r hr
  by_cases hj : j < 80
  · have h := tp_finc_ok k hk j hj
    unfold tp_finc at h
    rw [hr] at h
    exact of_decide_eq_true h
  · rw [tp_RF_big k j (by omega)] at hr
    cases hr
theorem tp_mok0 : tp_mok tp_m0 := by
  intro k j
  show tp_rng (tp_sty k j) 0
  cases tp_sty k j <;> simp only [tp_rng] <;> first | exact tp_r0 | exact ⟨by decide, by decide⟩
set_option maxHeartbeats 4000000 in
/-- THE CLAIM'S WALK out of the law's loop -/
theorem tp_whole {p : Program} {e : Env} {s : State} {m : MethodId} {below : List Frame} {meth : Method} {c : Code} (l : Launch) {b L : Nat} {xs : Nat → Int32} (hL : L ≤ 3072) (C0 : lw_At p s m meth c b L xs)
    (Hl : ∀ G : tp_G, tp_Gf G = true → tp_GL G ≤ 3072 → tp_go G mL_law 18 [some (tR (some 5000)), some (tR (some 0)), some (tR (some 201)), some (tI 0)] [] tp_mm116 234 234 0 (fun r _ => r = some (tI 1))) : W p l e room_1 s m #[Value.ref b] below meth c s.heap [] 0 0 (lw_Z below #[Value.ref b] s) (entryFrame m ([Value.ref b] : List Value).toArray 4) := by
  obtain ⟨st, D, ca, hst, hKf⟩ := tp_init l C0
  obtain ⟨hx, hb, hr, hml, hown, hts, hX, hbl, hlk, hgv⟩ := C0
  have hgo : tp_go (l, s.heap.size, st, D, ca, false, L, fun j => (xs j).toInt) mL_law 0 [some (tR (some 5000)), none, none, none] [] tp_m0 0 234 40068 (fun r _ => r = some (tI 1)) := c_L_law_law rfl (tp_phase tp_fin_ok (Hl _ rfl hL))
  have hl := lv_entry ([Value.ref b]) (n := 4) (Nat.le_of_ble_eq_true rfl)
  rw [lg_entry_eq]
  generalize (lg_sl [Value.ref b] ++ List.replicate (4 - (lg_sl [Value.ref b]).length) Slot.unset).toArray = lsA at hl ⊢
  intro T hT X
  have hroom : s.hasRoom e.platform (tp_rm mL_law 234 40068) = true := by
    have h := X.room
    simp only [State.hasRoom, Bool.and_eq_true, decide_eq_true_eq] at h
    simp only [State.hasRoom, Bool.and_eq_true, decide_eq_true_eq]
    obtain ⟨⟨⟨⟨g1, g2, g3, g4, g5, g6⟩, g7⟩, g8⟩, g9⟩ := h
    have g1 : s.localsInUse + 548 + stackMargin ≤ realStackBytes / 8 := g1
    have g2 : s.frames.length + 14 ≤ e.platform.maxFrames := g2
    have g3 : s.frames.length + 14 ≤ (e.platform.stackLimits s.me).1 := g3
    have g4 : s.localsInUse + 548 ≤ e.platform.maxStackSlots := g4
    have g5 : s.localsInUse + 548 ≤ (e.platform.stackLimits s.me).2 := g5
    have g7 : s.heap.size + 600000 ≤ e.platform.maxCells := g7
    have g8 : s.slotsUsed + 7302250 ≤ e.platform.maxSlots := g8
    refine ⟨⟨⟨⟨?_, ?_, ?_, ?_, ?_, g6⟩, ?_⟩, ?_⟩, g9⟩
    · show s.localsInUse + 546 + stackMargin ≤ realStackBytes / 8
      omega
    · exact g2
    · exact g3
    · show s.localsInUse + 546 ≤ e.platform.maxStackSlots
      omega
    · show s.localsInUse + 546 ≤ (e.platform.stackLimits s.me).2
      omega
    · show s.heap.size + 234 ≤ e.platform.maxCells
      omega
    · show s.slotsUsed + 40068 ≤ e.platform.maxSlots
      omega
  have X2 : Stand p l e (tp_rm mL_law 234 40068) s m #[Value.ref b] below meth c T [] 0 0 := { X with room := hroom }
  have hpt : tp_pt (l, s.heap.size, st, D, ca, false, L, fun j => (xs j).toInt) mL_law [some (tR (some 5000)), none, none, none] [] tp_m0 0 234 40068 p s m #[Value.ref b] meth c s.heap [] 0 0 lsA 234 40068 := by
    refine ⟨⟨mL_law_oke, hx, hb, hml, hr, hlk, fun h => absurd h (by decide), hown, fun w hw => hts w (List.mem_filter.mp hw).1, hKf false, Nat.le_refl _⟩, va_S.rf, ⟨by decide, fun k q hk => ?_⟩, ⟨rfl, hl.1, hl.2.1, fun i v hi => ?_⟩, ⟨by decide, by decide, by decide, rfl⟩, tp_mok0, fun v hv => (by cases hv), fun v hv => ?_⟩
    · simp [tp_ws] at hk
    · match i with
      | 0 =>
        cases hi
        have h0 := hl.2.2 (0, Value.ref b) List.mem_cons_self
        show lsA[0]? = some (.val (.ref (st 0)))
        rw [hst]
        exact h0
      | 1 => cases hi
      | 2 => cases hi
      | 3 => cases hi
      | k + 4 => cases hi
    · simp only [List.mem_cons, Option.some.injEq, reduceCtorEq, List.not_mem_nil, or_false] at hv
      subst hv
      exact trivial
  obtain ⟨t, a1, o, r1, r2, ⟨r, μ', q1, q2, q3, q4, q5, q6⟩, Lc, hF, hLc⟩ := hgo p e s m #[Value.ref b] below meth c s.heap [] 0 0 lsA 234 40068 hpt T hT X2
  refine ⟨t, a1, o, r1, r2, ?_, hF.1, hF.2.1, hF.2.2.weaken (fun y hy hlt => absurd hlt (Nat.not_lt.mpr (hLc y hy))) (by decide) (by decide)⟩
  rw [q1, q5]
  rfl
