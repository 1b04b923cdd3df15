/-! the relation, when the tape or the fault changes -/
theorem tp_Co_congr {A A' : Nat → Int → Int} {c : Nat} {f : Int → Int} (h : ∀ i, 4 ≤ i → A' i = A i) (hc : 4 ≤ c) (hh : tp_Co A c f) : tp_Co A' c f := by
  unfold tp_Co at hh ⊢
  rw [h c hc, h (c + 1) (by omega), h (c + 2) (by omega), h (c + 3) (by omega), h (c + 4) (by omega)]
  exact hh
theorem tp_Dr_congr {A A' : Nat → Int → Int} {c : Nat} {f : Int → Int} (h : ∀ i, 4 ≤ i → A' i = A i) (hc : 4 ≤ c) (hh : tp_Dr A c f) : tp_Dr A' c f := by
  unfold tp_Dr at hh ⊢
  rw [h c hc, h (c + 1) (by omega)]
  exact hh
theorem tp_Lo_congr {A A' : Nat → Int → Int} {c : Nat} {f : Int → Int} (h : ∀ i, 4 ≤ i → A' i = A i) (hc : 4 ≤ c) (hh : tp_Lo A c f) : tp_Lo A' c f := by
  unfold tp_Lo at hh ⊢
  rw [h c hc, h (c + 1) (by omega)]
  exact hh
theorem tp_Lg_congr {A A' : Nat → Int → Int} {c : Nat} {f : Int → Int} (h : ∀ i, 4 ≤ i → A' i = A i) (hc : 4 ≤ c) (hh : tp_Lg A c f) : tp_Lg A' c f := by
  unfold tp_Lg at hh ⊢
  rw [h c hc, h (c + 1) (by omega), h (c + 2) (by omega)]
  exact hh
/-- a state, another tape, length, fault, place -/
theorem tp_St_head {A A' B B' : Nat → Int → Int} {q : Int} (h : tp_St A B q) (hA : ∀ i, 4 ≤ i → A' i = A i) (hB : ∀ i, 4 ≤ i → B' i = B i) (h1 : (0 ≤ A' 0 1 ∧ A' 0 1 ≤ 600) ∧ A' 0 1 = B' 1 q) (h2 : ∀ j, 0 ≤ j → j < A' 0 1 → A' 1 j = B' 0 (600 * q + j)) (h3 : A' 0 2 = B' 2 q ∧ A' 0 3 = B' 3 q) : tp_St A' B' q := by
  obtain ⟨-, -, -, g4, g5, g6, g7, g8⟩ := h
  refine ⟨h1, h2, h3, ?_, ?_, ?_, ?_, ?_⟩
  · rw [hA 4 (by omega), hB 4 (by omega)]; exact g4
  · rw [hA 4 (by omega), hB 5 (by omega)]; exact fun k hk hk2 => tp_Co_congr hA (by omega) (g5 k hk hk2)
  · rw [hA 4 (by omega), hB 6 (by omega)]; exact fun k hk hk2 => tp_Dr_congr hA (by omega) (g6 k hk hk2)
  · rw [hA 4 (by omega), hB 7 (by omega)]; exact fun k hk hk2 => tp_Lo_congr hA (by omega) (g7 k hk hk2)
  · rw [hA 4 (by omega), hB 8 (by omega)]; exact fun k hk hk2 => tp_Lg_congr hA (by omega) (g8 k hk hk2)
theorem tp_cut_at {M : Nat → Int → Int} {s n i : Nat} (h : i < n) : tp_cut M s n i = M (s + i) := if_pos h
theorem tp_cut_out {M : Nat → Int → Int} {s n i : Nat} (h : n ≤ i) : tp_cut M s n i = fun _ => 0 := if_neg (by omega)
/-- all that is told, another tape, length, fault, place of what is told now -/
theorem tp_R_head {μ μ' : tp_M} (h : tp_R μ) (hk : ∀ k, tp_tl k → k ≠ 1 → k ≠ 2 → (k < 202 ∨ 205 < k) → μ'.1 k = μ.1 k) (hx : ∀ j, 600 ≤ j → μ'.1 202 j = μ.1 202 j) (hy : ∀ q, 1 ≤ q → μ'.1 203 q = μ.1 203 q ∧ μ'.1 204 q = μ.1 204 q ∧ μ'.1 205 q = μ.1 205 q)
    (h1 : 0 ≤ μ'.1 1 1 ∧ μ'.1 1 1 ≤ 600 ∧ μ'.1 1 1 = μ'.1 203 0) (h2 : ∀ j, 0 ≤ j → j < μ'.1 1 1 → μ'.1 2 j = μ'.1 202 j) (h3 : μ'.1 1 2 = μ'.1 204 0 ∧ μ'.1 1 3 = μ'.1 205 0) : tp_R μ' := by
  have hB : ∀ i, 4 ≤ i → tp_cut μ'.1 202 9 i = tp_cut μ.1 202 9 i := fun i hi => by
    by_cases h9 : i < 9
    · rw [tp_cut_at h9, tp_cut_at h9, hk (202 + i) (by unfold tp_tl; omega) (by omega) (by omega) (by omega)]
    · rw [tp_cut_out (by omega), tp_cut_out (by omega)]
  refine ⟨?_, fun i hi => ?_⟩
  · refine tp_St_head h.1 (fun i hi => ?_) hB ⟨⟨h1.1, h1.2.1⟩, h1.2.2⟩ (fun j g1 g2 => ?_) h3
    · by_cases h9 : i < 39
      · rw [tp_cut_at h9, tp_cut_at h9, hk (1 + i) (by unfold tp_tl; omega) (by omega) (by omega) (by omega)]
      · rw [tp_cut_out (by omega), tp_cut_out (by omega)]
    · rw [show (600 : Int) * 0 + j = j by omega]
      exact h2 j g1 g2
  · obtain ⟨g1, g2⟩ := h.2 i hi
    rw [hk 233 (by unfold tp_tl; omega) (by omega) (by omega) (by omega), hk (84 + 39 * i) (by unfold tp_tl; omega) (by omega) (by omega) (by omega)]
    refine ⟨g1, fun g3 => ?_⟩
    have g4 := g2 g3
    have hA : tp_cut μ'.1 (84 + 39 * i) 39 = tp_cut μ.1 (84 + 39 * i) 39 := tp_cut_eq (fun k e1 e2 => hk k (by unfold tp_tl; omega) (by omega) (by omega) (by omega))
    rw [hA]
    have g5 := g4
    obtain ⟨e1, e2, e3, -⟩ := g5
    have hq := hy (1 + (i : Int)) (by omega)
    refine tp_St_head g4 (fun _ _ => rfl) hB ⟨e1.1, ?_⟩ (fun j d1 d2 => ?_) ⟨?_, ?_⟩
    · show _ = μ'.1 203 (1 + (i : Int))
      rw [hq.1]; exact e1.2
    · show _ = μ'.1 202 (600 * (1 + (i : Int)) + j)
      rw [hx _ (by omega)]; exact e2 j d1 d2
    · show _ = μ'.1 204 (1 + (i : Int))
      rw [hq.2.1]; exact e3.1
    · show _ = μ'.1 205 (1 + (i : Int))
      rw [hq.2.2]; exact e3.2
