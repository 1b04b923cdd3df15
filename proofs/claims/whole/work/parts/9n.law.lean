theorem g_sfit {G : tp_G} {d : tp_D} {pc : Nat} {ls : List (Option tp_V)} {st : List tp_V} {μ : tp_M} {n n' bs : Nat} {Φ : Option tp_V → tp_M → Prop} (k : (∀ v, v ∈ st → tp_fit v) → tp_go G d pc ls st μ n n' bs Φ) : tp_go G d pc ls st μ n n' bs Φ :=
  fun p e s m args below meth c H locs cells slots lsA mc ms Z => k Z.2.2.2.2.2.2.1 p e s m args below meth c H locs cells slots lsA mc ms Z
theorem tp_R_z {μ : tp_M} (f : μ.1 1 1 = 0 ∧ μ.1 203 0 = 0 ∧ μ.1 1 2 = μ.1 204 0 ∧ μ.1 1 3 = μ.1 205 0) (e : ∀ t, 0 ≤ t → t < 4 → μ.1 5 t = 0 ∧ μ.1 206 t = 0) (g : ∀ i : Nat, i < 3 → μ.1 (84 + 39 * i) 4 = μ.1 233 (i : Int) ∧ μ.1 233 (i : Int) ≠ 1) : tp_R μ := by
  refine ⟨⟨⟨?_, ?_⟩, ?_, ⟨f.2.2.1, f.2.2.2⟩, ?_, ?_, ?_, ?_, ?_⟩, fun i hi => ⟨(g i hi).1, fun z => absurd z (g i hi).2⟩⟩
  · show 0 ≤ μ.1 1 1 ∧ μ.1 1 1 ≤ 600
    rw [f.1]; decide
  · show μ.1 1 1 = μ.1 203 0
    rw [f.1, f.2.1]
  · intro j j0 j1
    have j1 : j < μ.1 1 1 := j1
    rw [f.1] at j1; omega
  · intro t t0 t1
    show μ.1 5 t = μ.1 206 (4 * 0 + t) ∧ 0 ≤ μ.1 5 t ∧ μ.1 5 t ≤ 2
    rw [show (4 : Int) * 0 + t = t by omega, (e t t0 t1).1, (e t t0 t1).2]; decide
  · intro k hk hk1
    have hk1 : (k : Int) < μ.1 5 0 := hk1
    rw [(e 0 (by decide) (by decide)).1] at hk1; omega
  · intro k hk hk1
    have hk1 : (k : Int) < μ.1 5 1 := hk1
    rw [(e 1 (by decide) (by decide)).1] at hk1; omega
  · intro k hk hk1
    have hk1 : (k : Int) < μ.1 5 2 := hk1
    rw [(e 2 (by decide) (by decide)).1] at hk1; omega
  · intro k hk hk1
    have hk1 : (k : Int) < μ.1 5 3 := hk1
    rw [(e 3 (by decide) (by decide)).1] at hk1; omega
set_option maxRecDepth 1000000 in
theorem tp_R0 : tp_R tp_mm116 := tp_R_z (by decide +kernel) (fun t t0 t1 => by
  rcases (show t = 0 ∨ t = 1 ∨ t = 2 ∨ t = 3 by omega) with u | u | u | u <;> subst u <;> decide +kernel) (fun i hi => by
  rcases (show i = 0 ∨ i = 1 ∨ i = 2 by omega) with u | u | u <;> subst u <;> decide +kernel)
set_option maxHeartbeats 4000000 in
set_option maxRecDepth 100000 in
theorem law_c0 {G : tp_G} (hG : tp_Gf G = true) {μ : tp_M} (hR : tp_R μ) {k : Int} (h0 : 0 ≤ k) (hk6 : k + 6 ≤ (tp_sl G 0 : Int)) (hN : (tp_sl G 0 : Int) ≤ 3072) {Φ : Option tp_V → tp_M → Prop} (K : ∀ μ', tp_R μ' → tp_g G mL_law 1206 [some (tR (some 5000)), some (tR (some 0)), some (tR (some 201)), some (tI k)] [] μ' Φ) : tp_g G mL_law 152 [some (tR (some 5000)), some (tR (some 0)), some (tR (some 201)), some (tI k)] [] μ Φ := by
  obtain ⟨x1, h1⟩ : ∃ x, tp_sv G 0 (k + 1).toNat = x := ⟨_, rfl⟩
  obtain ⟨x2, h2⟩ : ∃ x, tp_sv G 0 (k + 2).toNat = x := ⟨_, rfl⟩
  obtain ⟨x3, h3⟩ : ∃ x, tp_sv G 0 (k + 3).toNat = x := ⟨_, rfl⟩
  obtain ⟨x4, h4⟩ : ∃ x, tp_sv G 0 (k + 4).toNat = x := ⟨_, rfl⟩
  obtain ⟨x5, h5⟩ : ∃ x, tp_sv G 0 (k + 5).toNat = x := ⟨_, rfl⟩
  refine g_aload_n rfl rfl ?_
  refine g_aload_n rfl rfl ?_
  refine g_iload_n rfl rfl ?_
  refine g_iconst rfl ⟨by decide, by decide⟩ ?_
  refine x_iadd (z := k + 1) rfl rfl ⟨by omega, by omega⟩ ?_
  refine x_sald (i0 := 0) rfl (by decide) (by omega) (by omega) h1 ?_
  refine g_aload_n rfl rfl ?_
  refine g_iload_n rfl rfl ?_
  refine g_iconst rfl ⟨by decide, by decide⟩ ?_
  refine x_iadd (z := k + 2) rfl rfl ⟨by omega, by omega⟩ ?_
  refine x_sald (i0 := 0) rfl (by decide) (by omega) (by omega) h2 ?_
  refine g_aload_n rfl rfl ?_
  refine g_iload_n rfl rfl ?_
  refine g_iconst rfl ⟨by decide, by decide⟩ ?_
  refine x_iadd (z := k + 3) rfl rfl ⟨by omega, by omega⟩ ?_
  refine x_sald (i0 := 0) rfl (by decide) (by omega) (by omega) h3 ?_
  refine g_aload_n rfl rfl ?_
  refine g_iload_n rfl rfl ?_
  refine g_iconst rfl ⟨by decide, by decide⟩ ?_
  refine x_iadd (z := k + 4) rfl rfl ⟨by omega, by omega⟩ ?_
  refine x_sald (i0 := 0) rfl (by decide) (by omega) (by omega) h4 ?_
  refine g_aload_n rfl rfl ?_
  refine g_iload_n rfl rfl ?_
  refine g_iconst rfl ⟨by decide, by decide⟩ ?_
  refine x_iadd (z := k + 5) rfl rfl ⟨by omega, by omega⟩ ?_
  refine x_sald (i0 := 0) rfl (by decide) (by omega) (by omega) h5 ?_
  refine g_cV (as := [tI x1, tI x2, tI x3, tI x4, tI x5]) (p_feed hG μ hR) rfl rfl mX11_feed_ok rfl rfl rfl (by decide) rfl rfl rfl ?_
  rintro _ μ1 ⟨v, rfl, hk1⟩ _
  refine g_aload_n rfl rfl ?_
  refine g_aload_n rfl rfl ?_
  refine g_iload_n rfl rfl ?_
  refine g_iconst rfl ⟨by decide, by decide⟩ ?_
  refine x_iadd (z := k + 1) rfl rfl ⟨by omega, by omega⟩ ?_
  refine x_sald (i0 := 0) rfl (by decide) (by omega) (by omega) h1 ?_
  refine g_aload_n rfl rfl ?_
  refine g_iload_n rfl rfl ?_
  refine g_iconst rfl ⟨by decide, by decide⟩ ?_
  refine x_iadd (z := k + 2) rfl rfl ⟨by omega, by omega⟩ ?_
  refine x_sald (i0 := 0) rfl (by decide) (by omega) (by omega) h2 ?_
  refine g_aload_n rfl rfl ?_
  refine g_iload_n rfl rfl ?_
  refine g_iconst rfl ⟨by decide, by decide⟩ ?_
  refine x_iadd (z := k + 3) rfl rfl ⟨by omega, by omega⟩ ?_
  refine x_sald (i0 := 0) rfl (by decide) (by omega) (by omega) h3 ?_
  refine g_aload_n rfl rfl ?_
  refine g_iload_n rfl rfl ?_
  refine g_iconst rfl ⟨by decide, by decide⟩ ?_
  refine x_iadd (z := k + 4) rfl rfl ⟨by omega, by omega⟩ ?_
  refine x_sald (i0 := 0) rfl (by decide) (by omega) (by omega) h4 ?_
  refine g_aload_n rfl rfl ?_
  refine g_iload_n rfl rfl ?_
  refine g_iconst rfl ⟨by decide, by decide⟩ ?_
  refine x_iadd (z := k + 5) rfl rfl ⟨by omega, by omega⟩ ?_
  refine x_sald (i0 := 0) rfl (by decide) (by omega) (by omega) h5 ?_
  refine g_cV (as := [tI x1, tI x2, tI x3, tI x4, tI x5]) hk1 rfl rfl mX12_feed_ok rfl rfl rfl (by decide) rfl rfl rfl ?_
  rintro _ μ2 ⟨rfl, hR2⟩ _
  refine g_icmp_eq (tgt := 1206) rfl (by decide) (fun _ => ?_) (fun hx => absurd rfl hx)
  exact K μ2 hR2
set_option maxHeartbeats 4000000 in
set_option maxRecDepth 100000 in
theorem law_c1 {G : tp_G} (hG : tp_Gf G = true) {μ : tp_M} (hR : tp_R μ) {k : Int} (h0 : 0 ≤ k) (hk6 : k + 6 ≤ (tp_sl G 0 : Int)) (hN : (tp_sl G 0 : Int) ≤ 3072) {Φ : Option tp_V → tp_M → Prop} (K : ∀ μ', tp_R μ' → tp_g G mL_law 1206 [some (tR (some 5000)), some (tR (some 0)), some (tR (some 201)), some (tI k)] [] μ' Φ) : tp_g G mL_law 215 [some (tR (some 5000)), some (tR (some 0)), some (tR (some 201)), some (tI k)] [] μ Φ := by
  obtain ⟨x1, h1⟩ : ∃ x, tp_sv G 0 (k + 1).toNat = x := ⟨_, rfl⟩
  obtain ⟨x2, h2⟩ : ∃ x, tp_sv G 0 (k + 2).toNat = x := ⟨_, rfl⟩
  obtain ⟨x3, h3⟩ : ∃ x, tp_sv G 0 (k + 3).toNat = x := ⟨_, rfl⟩
  obtain ⟨x4, h4⟩ : ∃ x, tp_sv G 0 (k + 4).toNat = x := ⟨_, rfl⟩
  obtain ⟨x5, h5⟩ : ∃ x, tp_sv G 0 (k + 5).toNat = x := ⟨_, rfl⟩
  refine g_aload_n rfl rfl ?_
  refine g_aload_n rfl rfl ?_
  refine g_iload_n rfl rfl ?_
  refine g_iconst rfl ⟨by decide, by decide⟩ ?_
  refine x_iadd (z := k + 1) rfl rfl ⟨by omega, by omega⟩ ?_
  refine x_sald (i0 := 0) rfl (by decide) (by omega) (by omega) h1 ?_
  refine g_cV (as := [tI x1]) (p_end hG μ hR) rfl rfl mX11_end_ok rfl rfl rfl (by decide) rfl rfl rfl ?_
  rintro _ μ1 ⟨v, rfl, hk1⟩ _
  refine g_aload_n rfl rfl ?_
  refine g_aload_n rfl rfl ?_
  refine g_iload_n rfl rfl ?_
  refine g_iconst rfl ⟨by decide, by decide⟩ ?_
  refine x_iadd (z := k + 1) rfl rfl ⟨by omega, by omega⟩ ?_
  refine x_sald (i0 := 0) rfl (by decide) (by omega) (by omega) h1 ?_
  refine g_cV (as := [tI x1]) hk1 rfl rfl mX12_end_ok rfl rfl rfl (by decide) rfl rfl rfl ?_
  rintro _ μ2 ⟨rfl, hR2⟩ _
  refine g_icmp_eq (tgt := 1206) rfl (by decide) (fun _ => ?_) (fun hx => absurd rfl hx)
  exact K μ2 hR2
set_option maxHeartbeats 4000000 in
set_option maxRecDepth 100000 in
theorem law_c2 {G : tp_G} (hG : tp_Gf G = true) {μ : tp_M} (hR : tp_R μ) {k : Int} (h0 : 0 ≤ k) (hk6 : k + 6 ≤ (tp_sl G 0 : Int)) (hN : (tp_sl G 0 : Int) ≤ 3072) {Φ : Option tp_V → tp_M → Prop} (K : ∀ μ', tp_R μ' → tp_g G mL_law 1206 [some (tR (some 5000)), some (tR (some 0)), some (tR (some 201)), some (tI k)] [] μ' Φ) : tp_g G mL_law 238 [some (tR (some 5000)), some (tR (some 0)), some (tR (some 201)), some (tI k)] [] μ Φ := by
  obtain ⟨x1, h1⟩ : ∃ x, tp_sv G 0 (k + 1).toNat = x := ⟨_, rfl⟩
  obtain ⟨x2, h2⟩ : ∃ x, tp_sv G 0 (k + 2).toNat = x := ⟨_, rfl⟩
  obtain ⟨x3, h3⟩ : ∃ x, tp_sv G 0 (k + 3).toNat = x := ⟨_, rfl⟩
  obtain ⟨x4, h4⟩ : ∃ x, tp_sv G 0 (k + 4).toNat = x := ⟨_, rfl⟩
  obtain ⟨x5, h5⟩ : ∃ x, tp_sv G 0 (k + 5).toNat = x := ⟨_, rfl⟩
  refine g_aload_n rfl rfl ?_
  refine g_aload_n rfl rfl ?_
  refine g_iload_n rfl rfl ?_
  refine g_iconst rfl ⟨by decide, by decide⟩ ?_
  refine x_iadd (z := k + 1) rfl rfl ⟨by omega, by omega⟩ ?_
  refine x_sald (i0 := 0) rfl (by decide) (by omega) (by omega) h1 ?_
  refine g_aload_n rfl rfl ?_
  refine g_iload_n rfl rfl ?_
  refine g_iconst rfl ⟨by decide, by decide⟩ ?_
  refine x_iadd (z := k + 2) rfl rfl ⟨by omega, by omega⟩ ?_
  refine x_sald (i0 := 0) rfl (by decide) (by omega) (by omega) h2 ?_
  refine g_cV (as := [tI x1, tI x2]) (p_text hG μ hR) rfl rfl mX11_text_ok rfl rfl rfl (by decide) rfl rfl rfl ?_
  rintro _ μ1 ⟨v, rfl, hk1⟩ _
  refine g_aload_n rfl rfl ?_
  refine g_aload_n rfl rfl ?_
  refine g_iload_n rfl rfl ?_
  refine g_iconst rfl ⟨by decide, by decide⟩ ?_
  refine x_iadd (z := k + 1) rfl rfl ⟨by omega, by omega⟩ ?_
  refine x_sald (i0 := 0) rfl (by decide) (by omega) (by omega) h1 ?_
  refine g_aload_n rfl rfl ?_
  refine g_iload_n rfl rfl ?_
  refine g_iconst rfl ⟨by decide, by decide⟩ ?_
  refine x_iadd (z := k + 2) rfl rfl ⟨by omega, by omega⟩ ?_
  refine x_sald (i0 := 0) rfl (by decide) (by omega) (by omega) h2 ?_
  refine g_cV (as := [tI x1, tI x2]) hk1 rfl rfl mX12_text_ok rfl rfl rfl (by decide) rfl rfl rfl ?_
  rintro _ μ2 ⟨rfl, hR2⟩ _
  refine g_icmp_eq (tgt := 1206) rfl (by decide) (fun _ => ?_) (fun hx => absurd rfl hx)
  exact K μ2 hR2
set_option maxHeartbeats 4000000 in
set_option maxRecDepth 100000 in
theorem law_c3 {G : tp_G} (hG : tp_Gf G = true) {μ : tp_M} (hR : tp_R μ) {k : Int} (h0 : 0 ≤ k) (hk6 : k + 6 ≤ (tp_sl G 0 : Int)) (hN : (tp_sl G 0 : Int) ≤ 3072) {Φ : Option tp_V → tp_M → Prop} (K : ∀ μ', tp_R μ' → tp_g G mL_law 1206 [some (tR (some 5000)), some (tR (some 0)), some (tR (some 201)), some (tI k)] [] μ' Φ) : tp_g G mL_law 271 [some (tR (some 5000)), some (tR (some 0)), some (tR (some 201)), some (tI k)] [] μ Φ := by
  obtain ⟨x1, h1⟩ : ∃ x, tp_sv G 0 (k + 1).toNat = x := ⟨_, rfl⟩
  obtain ⟨x2, h2⟩ : ∃ x, tp_sv G 0 (k + 2).toNat = x := ⟨_, rfl⟩
  obtain ⟨x3, h3⟩ : ∃ x, tp_sv G 0 (k + 3).toNat = x := ⟨_, rfl⟩
  obtain ⟨x4, h4⟩ : ∃ x, tp_sv G 0 (k + 4).toNat = x := ⟨_, rfl⟩
  obtain ⟨x5, h5⟩ : ∃ x, tp_sv G 0 (k + 5).toNat = x := ⟨_, rfl⟩
  refine g_aload_n rfl rfl ?_
  refine g_aload_n rfl rfl ?_
  refine g_iload_n rfl rfl ?_
  refine g_iconst rfl ⟨by decide, by decide⟩ ?_
  refine x_iadd (z := k + 1) rfl rfl ⟨by omega, by omega⟩ ?_
  refine x_sald (i0 := 0) rfl (by decide) (by omega) (by omega) h1 ?_
  refine g_cV (as := [tI x1]) (p_fault hG μ hR) rfl rfl mX11_fault_ok rfl rfl rfl (by decide) rfl rfl rfl ?_
  rintro _ μ1 ⟨v, rfl, hk1⟩ _
  refine g_aload_n rfl rfl ?_
  refine g_aload_n rfl rfl ?_
  refine g_iload_n rfl rfl ?_
  refine g_iconst rfl ⟨by decide, by decide⟩ ?_
  refine x_iadd (z := k + 1) rfl rfl ⟨by omega, by omega⟩ ?_
  refine x_sald (i0 := 0) rfl (by decide) (by omega) (by omega) h1 ?_
  refine g_cV (as := [tI x1]) hk1 rfl rfl mX12_fault_ok rfl rfl rfl (by decide) rfl rfl rfl ?_
  rintro _ μ2 ⟨rfl, hR2⟩ _
  refine g_icmp_eq (tgt := 1206) rfl (by decide) (fun _ => ?_) (fun hx => absurd rfl hx)
  exact K μ2 hR2
set_option maxHeartbeats 4000000 in
set_option maxRecDepth 100000 in
theorem law_c4 {G : tp_G} (hG : tp_Gf G = true) {μ : tp_M} (hR : tp_R μ) {k : Int} (h0 : 0 ≤ k) (hk6 : k + 6 ≤ (tp_sl G 0 : Int)) (hN : (tp_sl G 0 : Int) ≤ 3072) {Φ : Option tp_V → tp_M → Prop} (K : ∀ μ', tp_R μ' → tp_g G mL_law 1206 [some (tR (some 5000)), some (tR (some 0)), some (tR (some 201)), some (tI k)] [] μ' Φ) : tp_g G mL_law 294 [some (tR (some 5000)), some (tR (some 0)), some (tR (some 201)), some (tI k)] [] μ Φ := by
  obtain ⟨x1, h1⟩ : ∃ x, tp_sv G 0 (k + 1).toNat = x := ⟨_, rfl⟩
  obtain ⟨x2, h2⟩ : ∃ x, tp_sv G 0 (k + 2).toNat = x := ⟨_, rfl⟩
  obtain ⟨x3, h3⟩ : ∃ x, tp_sv G 0 (k + 3).toNat = x := ⟨_, rfl⟩
  obtain ⟨x4, h4⟩ : ∃ x, tp_sv G 0 (k + 4).toNat = x := ⟨_, rfl⟩
  obtain ⟨x5, h5⟩ : ∃ x, tp_sv G 0 (k + 5).toNat = x := ⟨_, rfl⟩
  refine g_aload_n rfl rfl ?_
  refine g_aload_n rfl rfl ?_
  refine g_iload_n rfl rfl ?_
  refine g_iconst rfl ⟨by decide, by decide⟩ ?_
  refine x_iadd (z := k + 1) rfl rfl ⟨by omega, by omega⟩ ?_
  refine x_sald (i0 := 0) rfl (by decide) (by omega) (by omega) h1 ?_
  refine g_aload_n rfl rfl ?_
  refine g_iload_n rfl rfl ?_
  refine g_iconst rfl ⟨by decide, by decide⟩ ?_
  refine x_iadd (z := k + 2) rfl rfl ⟨by omega, by omega⟩ ?_
  refine x_sald (i0 := 0) rfl (by decide) (by omega) (by omega) h2 ?_
  refine g_sfit (fun hft => ?_)
  refine g_cV (as := [tI x1, tI x2]) (p_code hG (hft _ List.mem_cons_self) μ hR) rfl rfl mX11_code_ok rfl rfl rfl (by decide) rfl rfl rfl ?_
  rintro _ μ1 ⟨v, rfl, hk1⟩ _
  refine g_aload_n rfl rfl ?_
  refine g_aload_n rfl rfl ?_
  refine g_iload_n rfl rfl ?_
  refine g_iconst rfl ⟨by decide, by decide⟩ ?_
  refine x_iadd (z := k + 1) rfl rfl ⟨by omega, by omega⟩ ?_
  refine x_sald (i0 := 0) rfl (by decide) (by omega) (by omega) h1 ?_
  refine g_aload_n rfl rfl ?_
  refine g_iload_n rfl rfl ?_
  refine g_iconst rfl ⟨by decide, by decide⟩ ?_
  refine x_iadd (z := k + 2) rfl rfl ⟨by omega, by omega⟩ ?_
  refine x_sald (i0 := 0) rfl (by decide) (by omega) (by omega) h2 ?_
  refine g_cV (as := [tI x1, tI x2]) hk1 rfl rfl mX12_code_ok rfl rfl rfl (by decide) rfl rfl rfl ?_
  rintro _ μ2 ⟨rfl, hR2⟩ _
  refine g_icmp_eq (tgt := 1206) rfl (by decide) (fun _ => ?_) (fun hx => absurd rfl hx)
  exact K μ2 hR2
set_option maxHeartbeats 4000000 in
set_option maxRecDepth 100000 in
theorem law_c5 {G : tp_G} (hG : tp_Gf G = true) {μ : tp_M} (hR : tp_R μ) {k : Int} (h0 : 0 ≤ k) (hk6 : k + 6 ≤ (tp_sl G 0 : Int)) (hN : (tp_sl G 0 : Int) ≤ 3072) {Φ : Option tp_V → tp_M → Prop} (K : ∀ μ', tp_R μ' → tp_g G mL_law 1206 [some (tR (some 5000)), some (tR (some 0)), some (tR (some 201)), some (tI k)] [] μ' Φ) : tp_g G mL_law 327 [some (tR (some 5000)), some (tR (some 0)), some (tR (some 201)), some (tI k)] [] μ Φ := by
  obtain ⟨x1, h1⟩ : ∃ x, tp_sv G 0 (k + 1).toNat = x := ⟨_, rfl⟩
  obtain ⟨x2, h2⟩ : ∃ x, tp_sv G 0 (k + 2).toNat = x := ⟨_, rfl⟩
  obtain ⟨x3, h3⟩ : ∃ x, tp_sv G 0 (k + 3).toNat = x := ⟨_, rfl⟩
  obtain ⟨x4, h4⟩ : ∃ x, tp_sv G 0 (k + 4).toNat = x := ⟨_, rfl⟩
  obtain ⟨x5, h5⟩ : ∃ x, tp_sv G 0 (k + 5).toNat = x := ⟨_, rfl⟩
  refine g_aload_n rfl rfl ?_
  refine g_aload_n rfl rfl ?_
  refine g_iload_n rfl rfl ?_
  refine g_iconst rfl ⟨by decide, by decide⟩ ?_
  refine x_iadd (z := k + 1) rfl rfl ⟨by omega, by omega⟩ ?_
  refine x_sald (i0 := 0) rfl (by decide) (by omega) (by omega) h1 ?_
  refine g_aload_n rfl rfl ?_
  refine g_iload_n rfl rfl ?_
  refine g_iconst rfl ⟨by decide, by decide⟩ ?_
  refine x_iadd (z := k + 2) rfl rfl ⟨by omega, by omega⟩ ?_
  refine x_sald (i0 := 0) rfl (by decide) (by omega) (by omega) h2 ?_
  refine g_cV (as := [tI x1, tI x2]) (p_choice hG μ hR) rfl rfl mX11_choice_ok rfl rfl rfl (by decide) rfl rfl rfl ?_
  rintro _ μ1 ⟨v, rfl, hk1⟩ _
  refine g_aload_n rfl rfl ?_
  refine g_aload_n rfl rfl ?_
  refine g_iload_n rfl rfl ?_
  refine g_iconst rfl ⟨by decide, by decide⟩ ?_
  refine x_iadd (z := k + 1) rfl rfl ⟨by omega, by omega⟩ ?_
  refine x_sald (i0 := 0) rfl (by decide) (by omega) (by omega) h1 ?_
  refine g_aload_n rfl rfl ?_
  refine g_iload_n rfl rfl ?_
  refine g_iconst rfl ⟨by decide, by decide⟩ ?_
  refine x_iadd (z := k + 2) rfl rfl ⟨by omega, by omega⟩ ?_
  refine x_sald (i0 := 0) rfl (by decide) (by omega) (by omega) h2 ?_
  refine g_cV (as := [tI x1, tI x2]) hk1 rfl rfl mX12_choice_ok rfl rfl rfl (by decide) rfl rfl rfl ?_
  rintro _ μ2 ⟨rfl, hR2⟩ _
  refine g_icmp_eq (tgt := 1206) rfl (by decide) (fun _ => ?_) (fun hx => absurd rfl hx)
  exact K μ2 hR2
set_option maxHeartbeats 4000000 in
set_option maxRecDepth 100000 in
theorem law_c6 {G : tp_G} (hG : tp_Gf G = true) {μ : tp_M} (hR : tp_R μ) {k : Int} (h0 : 0 ≤ k) (hk6 : k + 6 ≤ (tp_sl G 0 : Int)) (hN : (tp_sl G 0 : Int) ≤ 3072) {Φ : Option tp_V → tp_M → Prop} (K : ∀ μ', tp_R μ' → tp_g G mL_law 1206 [some (tR (some 5000)), some (tR (some 0)), some (tR (some 201)), some (tI k)] [] μ' Φ) : tp_g G mL_law 360 [some (tR (some 5000)), some (tR (some 0)), some (tR (some 201)), some (tI k)] [] μ Φ := by
  obtain ⟨x1, h1⟩ : ∃ x, tp_sv G 0 (k + 1).toNat = x := ⟨_, rfl⟩
  obtain ⟨x2, h2⟩ : ∃ x, tp_sv G 0 (k + 2).toNat = x := ⟨_, rfl⟩
  obtain ⟨x3, h3⟩ : ∃ x, tp_sv G 0 (k + 3).toNat = x := ⟨_, rfl⟩
  obtain ⟨x4, h4⟩ : ∃ x, tp_sv G 0 (k + 4).toNat = x := ⟨_, rfl⟩
  obtain ⟨x5, h5⟩ : ∃ x, tp_sv G 0 (k + 5).toNat = x := ⟨_, rfl⟩
  refine g_aload_n rfl rfl ?_
  refine g_aload_n rfl rfl ?_
  refine g_iload_n rfl rfl ?_
  refine g_iconst rfl ⟨by decide, by decide⟩ ?_
  refine x_iadd (z := k + 1) rfl rfl ⟨by omega, by omega⟩ ?_
  refine x_sald (i0 := 0) rfl (by decide) (by omega) (by omega) h1 ?_
  refine g_aload_n rfl rfl ?_
  refine g_iload_n rfl rfl ?_
  refine g_iconst rfl ⟨by decide, by decide⟩ ?_
  refine x_iadd (z := k + 2) rfl rfl ⟨by omega, by omega⟩ ?_
  refine x_sald (i0 := 0) rfl (by decide) (by omega) (by omega) h2 ?_
  refine g_cV (as := [tI x1, tI x2]) (p_loss hG μ hR) rfl rfl mX11_loss_ok rfl rfl rfl (by decide) rfl rfl rfl ?_
  rintro _ μ1 ⟨v, rfl, hk1⟩ _
  refine g_aload_n rfl rfl ?_
  refine g_aload_n rfl rfl ?_
  refine g_iload_n rfl rfl ?_
  refine g_iconst rfl ⟨by decide, by decide⟩ ?_
  refine x_iadd (z := k + 1) rfl rfl ⟨by omega, by omega⟩ ?_
  refine x_sald (i0 := 0) rfl (by decide) (by omega) (by omega) h1 ?_
  refine g_aload_n rfl rfl ?_
  refine g_iload_n rfl rfl ?_
  refine g_iconst rfl ⟨by decide, by decide⟩ ?_
  refine x_iadd (z := k + 2) rfl rfl ⟨by omega, by omega⟩ ?_
  refine x_sald (i0 := 0) rfl (by decide) (by omega) (by omega) h2 ?_
  refine g_cV (as := [tI x1, tI x2]) hk1 rfl rfl mX12_loss_ok rfl rfl rfl (by decide) rfl rfl rfl ?_
  rintro _ μ2 ⟨rfl, hR2⟩ _
  refine g_icmp_eq (tgt := 1206) rfl (by decide) (fun _ => ?_) (fun hx => absurd rfl hx)
  exact K μ2 hR2
set_option maxHeartbeats 4000000 in
set_option maxRecDepth 100000 in
theorem law_c7 {G : tp_G} (hG : tp_Gf G = true) {μ : tp_M} (hR : tp_R μ) {k : Int} (h0 : 0 ≤ k) (hk6 : k + 6 ≤ (tp_sl G 0 : Int)) (hN : (tp_sl G 0 : Int) ≤ 3072) {Φ : Option tp_V → tp_M → Prop} (K : ∀ μ', tp_R μ' → tp_g G mL_law 1206 [some (tR (some 5000)), some (tR (some 0)), some (tR (some 201)), some (tI k)] [] μ' Φ) : tp_g G mL_law 393 [some (tR (some 5000)), some (tR (some 0)), some (tR (some 201)), some (tI k)] [] μ Φ := by
  obtain ⟨x1, h1⟩ : ∃ x, tp_sv G 0 (k + 1).toNat = x := ⟨_, rfl⟩
  obtain ⟨x2, h2⟩ : ∃ x, tp_sv G 0 (k + 2).toNat = x := ⟨_, rfl⟩
  obtain ⟨x3, h3⟩ : ∃ x, tp_sv G 0 (k + 3).toNat = x := ⟨_, rfl⟩
  obtain ⟨x4, h4⟩ : ∃ x, tp_sv G 0 (k + 4).toNat = x := ⟨_, rfl⟩
  obtain ⟨x5, h5⟩ : ∃ x, tp_sv G 0 (k + 5).toNat = x := ⟨_, rfl⟩
  refine g_aload_n rfl rfl ?_
  refine g_aload_n rfl rfl ?_
  refine g_iload_n rfl rfl ?_
  refine g_iconst rfl ⟨by decide, by decide⟩ ?_
  refine x_iadd (z := k + 1) rfl rfl ⟨by omega, by omega⟩ ?_
  refine x_sald (i0 := 0) rfl (by decide) (by omega) (by omega) h1 ?_
  refine g_aload_n rfl rfl ?_
  refine g_iload_n rfl rfl ?_
  refine g_iconst rfl ⟨by decide, by decide⟩ ?_
  refine x_iadd (z := k + 2) rfl rfl ⟨by omega, by omega⟩ ?_
  refine x_sald (i0 := 0) rfl (by decide) (by omega) (by omega) h2 ?_
  refine g_aload_n rfl rfl ?_
  refine g_iload_n rfl rfl ?_
  refine g_iconst rfl ⟨by decide, by decide⟩ ?_
  refine x_iadd (z := k + 3) rfl rfl ⟨by omega, by omega⟩ ?_
  refine x_sald (i0 := 0) rfl (by decide) (by omega) (by omega) h3 ?_
  refine g_cV (as := [tI x1, tI x2, tI x3]) (p_run hG μ hR) rfl rfl mX11_run_ok rfl rfl rfl (by decide) rfl rfl rfl ?_
  rintro _ μ1 ⟨v, rfl, hk1⟩ _
  refine g_aload_n rfl rfl ?_
  refine g_aload_n rfl rfl ?_
  refine g_iload_n rfl rfl ?_
  refine g_iconst rfl ⟨by decide, by decide⟩ ?_
  refine x_iadd (z := k + 1) rfl rfl ⟨by omega, by omega⟩ ?_
  refine x_sald (i0 := 0) rfl (by decide) (by omega) (by omega) h1 ?_
  refine g_aload_n rfl rfl ?_
  refine g_iload_n rfl rfl ?_
  refine g_iconst rfl ⟨by decide, by decide⟩ ?_
  refine x_iadd (z := k + 2) rfl rfl ⟨by omega, by omega⟩ ?_
  refine x_sald (i0 := 0) rfl (by decide) (by omega) (by omega) h2 ?_
  refine g_aload_n rfl rfl ?_
  refine g_iload_n rfl rfl ?_
  refine g_iconst rfl ⟨by decide, by decide⟩ ?_
  refine x_iadd (z := k + 3) rfl rfl ⟨by omega, by omega⟩ ?_
  refine x_sald (i0 := 0) rfl (by decide) (by omega) (by omega) h3 ?_
  refine g_cV (as := [tI x1, tI x2, tI x3]) hk1 rfl rfl mX12_run_ok rfl rfl rfl (by decide) rfl rfl rfl ?_
  rintro _ μ2 ⟨rfl, hR2⟩ _
  refine g_icmp_eq (tgt := 1206) rfl (by decide) (fun _ => ?_) (fun hx => absurd rfl hx)
  exact K μ2 hR2
set_option maxHeartbeats 4000000 in
set_option maxRecDepth 100000 in
theorem law_c8 {G : tp_G} (hG : tp_Gf G = true) {μ : tp_M} (hR : tp_R μ) {k : Int} (h0 : 0 ≤ k) (hk6 : k + 6 ≤ (tp_sl G 0 : Int)) (hN : (tp_sl G 0 : Int) ≤ 3072) {Φ : Option tp_V → tp_M → Prop} (K : ∀ μ', tp_R μ' → tp_g G mL_law 1206 [some (tR (some 5000)), some (tR (some 0)), some (tR (some 201)), some (tI k)] [] μ' Φ) : tp_g G mL_law 436 [some (tR (some 5000)), some (tR (some 0)), some (tR (some 201)), some (tI k)] [] μ Φ := by
  obtain ⟨x1, h1⟩ : ∃ x, tp_sv G 0 (k + 1).toNat = x := ⟨_, rfl⟩
  obtain ⟨x2, h2⟩ : ∃ x, tp_sv G 0 (k + 2).toNat = x := ⟨_, rfl⟩
  obtain ⟨x3, h3⟩ : ∃ x, tp_sv G 0 (k + 3).toNat = x := ⟨_, rfl⟩
  obtain ⟨x4, h4⟩ : ∃ x, tp_sv G 0 (k + 4).toNat = x := ⟨_, rfl⟩
  obtain ⟨x5, h5⟩ : ∃ x, tp_sv G 0 (k + 5).toNat = x := ⟨_, rfl⟩
  by_cases hq : x4 = 0
  · refine g_aload_n rfl rfl ?_
    refine g_aload_n rfl rfl ?_
    refine g_iload_n rfl rfl ?_
    refine g_iconst rfl ⟨by decide, by decide⟩ ?_
    refine x_iadd (z := k + 1) rfl rfl ⟨by omega, by omega⟩ ?_
    refine x_sald (i0 := 0) rfl (by decide) (by omega) (by omega) h1 ?_
    refine g_aload_n rfl rfl ?_
    refine g_iload_n rfl rfl ?_
    refine g_iconst rfl ⟨by decide, by decide⟩ ?_
    refine x_iadd (z := k + 2) rfl rfl ⟨by omega, by omega⟩ ?_
    refine x_sald (i0 := 0) rfl (by decide) (by omega) (by omega) h2 ?_
    refine g_aload_n rfl rfl ?_
    refine g_iload_n rfl rfl ?_
    refine g_iconst rfl ⟨by decide, by decide⟩ ?_
    refine x_iadd (z := k + 3) rfl rfl ⟨by omega, by omega⟩ ?_
    refine x_sald (i0 := 0) rfl (by decide) (by omega) (by omega) h3 ?_
    refine g_aload_n rfl rfl ?_
    refine g_iload_n rfl rfl ?_
    refine g_iconst rfl ⟨by decide, by decide⟩ ?_
    refine x_iadd (z := k + 4) rfl rfl ⟨by omega, by omega⟩ ?_
    refine x_sald (i0 := 0) rfl (by decide) (by omega) (by omega) h4 ?_
    refine g_if_eq (tgt := 464) rfl (by decide) (fun _ => ?_) (fun hx => absurd hq hx)
    refine g_iconst rfl ⟨by decide, by decide⟩ ?_
    refine g_cV (as := [tI x1, tI x2, tI x3, tI 0]) (p_step hG (Or.inl rfl) μ hR) rfl rfl mX11_step_ok rfl rfl rfl (by decide) rfl rfl rfl ?_
    rintro _ μ1 ⟨v, rfl, hk1⟩ _
    refine g_aload_n rfl rfl ?_
    refine g_aload_n rfl rfl ?_
    refine g_iload_n rfl rfl ?_
    refine g_iconst rfl ⟨by decide, by decide⟩ ?_
    refine x_iadd (z := k + 1) rfl rfl ⟨by omega, by omega⟩ ?_
    refine x_sald (i0 := 0) rfl (by decide) (by omega) (by omega) h1 ?_
    refine g_aload_n rfl rfl ?_
    refine g_iload_n rfl rfl ?_
    refine g_iconst rfl ⟨by decide, by decide⟩ ?_
    refine x_iadd (z := k + 2) rfl rfl ⟨by omega, by omega⟩ ?_
    refine x_sald (i0 := 0) rfl (by decide) (by omega) (by omega) h2 ?_
    refine g_aload_n rfl rfl ?_
    refine g_iload_n rfl rfl ?_
    refine g_iconst rfl ⟨by decide, by decide⟩ ?_
    refine x_iadd (z := k + 3) rfl rfl ⟨by omega, by omega⟩ ?_
    refine x_sald (i0 := 0) rfl (by decide) (by omega) (by omega) h3 ?_
    refine g_aload_n rfl rfl ?_
    refine g_iload_n rfl rfl ?_
    refine g_iconst rfl ⟨by decide, by decide⟩ ?_
    refine x_iadd (z := k + 4) rfl rfl ⟨by omega, by omega⟩ ?_
    refine x_sald (i0 := 0) rfl (by decide) (by omega) (by omega) h4 ?_
    refine g_if_eq (tgt := 496) rfl (by decide) (fun _ => ?_) (fun hx => absurd hq hx)
    refine g_iconst rfl ⟨by decide, by decide⟩ ?_
    refine g_cV (as := [tI x1, tI x2, tI x3, tI 0]) hk1 rfl rfl mX12_step_ok rfl rfl rfl (by decide) rfl rfl rfl ?_
    rintro _ μ2 ⟨rfl, hR2⟩ _
    refine g_icmp_eq (tgt := 1206) rfl (by decide) (fun _ => ?_) (fun hx => absurd rfl hx)
    exact K μ2 hR2
  · refine g_aload_n rfl rfl ?_
    refine g_aload_n rfl rfl ?_
    refine g_iload_n rfl rfl ?_
    refine g_iconst rfl ⟨by decide, by decide⟩ ?_
    refine x_iadd (z := k + 1) rfl rfl ⟨by omega, by omega⟩ ?_
    refine x_sald (i0 := 0) rfl (by decide) (by omega) (by omega) h1 ?_
    refine g_aload_n rfl rfl ?_
    refine g_iload_n rfl rfl ?_
    refine g_iconst rfl ⟨by decide, by decide⟩ ?_
    refine x_iadd (z := k + 2) rfl rfl ⟨by omega, by omega⟩ ?_
    refine x_sald (i0 := 0) rfl (by decide) (by omega) (by omega) h2 ?_
    refine g_aload_n rfl rfl ?_
    refine g_iload_n rfl rfl ?_
    refine g_iconst rfl ⟨by decide, by decide⟩ ?_
    refine x_iadd (z := k + 3) rfl rfl ⟨by omega, by omega⟩ ?_
    refine x_sald (i0 := 0) rfl (by decide) (by omega) (by omega) h3 ?_
    refine g_aload_n rfl rfl ?_
    refine g_iload_n rfl rfl ?_
    refine g_iconst rfl ⟨by decide, by decide⟩ ?_
    refine x_iadd (z := k + 4) rfl rfl ⟨by omega, by omega⟩ ?_
    refine x_sald (i0 := 0) rfl (by decide) (by omega) (by omega) h4 ?_
    refine g_if_eq (tgt := 464) rfl (by decide) (fun hx => absurd hx hq) (fun _ => ?_)
    refine g_iconst rfl ⟨by decide, by decide⟩ ?_
    refine g_goto (tgt := 465) rfl (by decide) ?_
    refine g_cV (as := [tI x1, tI x2, tI x3, tI 1]) (p_step hG (Or.inr rfl) μ hR) rfl rfl mX11_step_ok rfl rfl rfl (by decide) rfl rfl rfl ?_
    rintro _ μ1 ⟨v, rfl, hk1⟩ _
    refine g_aload_n rfl rfl ?_
    refine g_aload_n rfl rfl ?_
    refine g_iload_n rfl rfl ?_
    refine g_iconst rfl ⟨by decide, by decide⟩ ?_
    refine x_iadd (z := k + 1) rfl rfl ⟨by omega, by omega⟩ ?_
    refine x_sald (i0 := 0) rfl (by decide) (by omega) (by omega) h1 ?_
    refine g_aload_n rfl rfl ?_
    refine g_iload_n rfl rfl ?_
    refine g_iconst rfl ⟨by decide, by decide⟩ ?_
    refine x_iadd (z := k + 2) rfl rfl ⟨by omega, by omega⟩ ?_
    refine x_sald (i0 := 0) rfl (by decide) (by omega) (by omega) h2 ?_
    refine g_aload_n rfl rfl ?_
    refine g_iload_n rfl rfl ?_
    refine g_iconst rfl ⟨by decide, by decide⟩ ?_
    refine x_iadd (z := k + 3) rfl rfl ⟨by omega, by omega⟩ ?_
    refine x_sald (i0 := 0) rfl (by decide) (by omega) (by omega) h3 ?_
    refine g_aload_n rfl rfl ?_
    refine g_iload_n rfl rfl ?_
    refine g_iconst rfl ⟨by decide, by decide⟩ ?_
    refine x_iadd (z := k + 4) rfl rfl ⟨by omega, by omega⟩ ?_
    refine x_sald (i0 := 0) rfl (by decide) (by omega) (by omega) h4 ?_
    refine g_if_eq (tgt := 496) rfl (by decide) (fun hx => absurd hx hq) (fun _ => ?_)
    refine g_iconst rfl ⟨by decide, by decide⟩ ?_
    refine g_goto (tgt := 497) rfl (by decide) ?_
    refine g_cV (as := [tI x1, tI x2, tI x3, tI 1]) hk1 rfl rfl mX12_step_ok rfl rfl rfl (by decide) rfl rfl rfl ?_
    rintro _ μ2 ⟨rfl, hR2⟩ _
    refine g_icmp_eq (tgt := 1206) rfl (by decide) (fun _ => ?_) (fun hx => absurd rfl hx)
    exact K μ2 hR2
set_option maxHeartbeats 4000000 in
set_option maxRecDepth 100000 in
theorem law_c9 {G : tp_G} (hG : tp_Gf G = true) {μ : tp_M} (hR : tp_R μ) {k : Int} (h0 : 0 ≤ k) (hk6 : k + 6 ≤ (tp_sl G 0 : Int)) (hN : (tp_sl G 0 : Int) ≤ 3072) {Φ : Option tp_V → tp_M → Prop} (K : ∀ μ', tp_R μ' → tp_g G mL_law 1206 [some (tR (some 5000)), some (tR (some 0)), some (tR (some 201)), some (tI k)] [] μ' Φ) : tp_g G mL_law 505 [some (tR (some 5000)), some (tR (some 0)), some (tR (some 201)), some (tI k)] [] μ Φ := by
  obtain ⟨x1, h1⟩ : ∃ x, tp_sv G 0 (k + 1).toNat = x := ⟨_, rfl⟩
  obtain ⟨x2, h2⟩ : ∃ x, tp_sv G 0 (k + 2).toNat = x := ⟨_, rfl⟩
  obtain ⟨x3, h3⟩ : ∃ x, tp_sv G 0 (k + 3).toNat = x := ⟨_, rfl⟩
  obtain ⟨x4, h4⟩ : ∃ x, tp_sv G 0 (k + 4).toNat = x := ⟨_, rfl⟩
  obtain ⟨x5, h5⟩ : ∃ x, tp_sv G 0 (k + 5).toNat = x := ⟨_, rfl⟩
  refine g_aload_n rfl rfl ?_
  refine g_aload_n rfl rfl ?_
  refine g_iload_n rfl rfl ?_
  refine g_iconst rfl ⟨by decide, by decide⟩ ?_
  refine x_iadd (z := k + 1) rfl rfl ⟨by omega, by omega⟩ ?_
  refine x_sald (i0 := 0) rfl (by decide) (by omega) (by omega) h1 ?_
  refine g_aload_n rfl rfl ?_
  refine g_iload_n rfl rfl ?_
  refine g_iconst rfl ⟨by decide, by decide⟩ ?_
  refine x_iadd (z := k + 2) rfl rfl ⟨by omega, by omega⟩ ?_
  refine x_sald (i0 := 0) rfl (by decide) (by omega) (by omega) h2 ?_
  refine g_aload_n rfl rfl ?_
  refine g_iload_n rfl rfl ?_
  refine g_iconst rfl ⟨by decide, by decide⟩ ?_
  refine x_iadd (z := k + 3) rfl rfl ⟨by omega, by omega⟩ ?_
  refine x_sald (i0 := 0) rfl (by decide) (by omega) (by omega) h3 ?_
  refine g_aload_n rfl rfl ?_
  refine g_iload_n rfl rfl ?_
  refine g_iconst rfl ⟨by decide, by decide⟩ ?_
  refine x_iadd (z := k + 4) rfl rfl ⟨by omega, by omega⟩ ?_
  refine x_sald (i0 := 0) rfl (by decide) (by omega) (by omega) h4 ?_
  refine g_cV (as := [tI x1, tI x2, tI x3, tI x4]) (p_open hG μ hR) rfl rfl mX11_open_ok rfl rfl rfl (by decide) rfl rfl rfl ?_
  rintro _ μ1 ⟨v, rfl, hk1⟩ _
  refine g_aload_n rfl rfl ?_
  refine g_aload_n rfl rfl ?_
  refine g_iload_n rfl rfl ?_
  refine g_iconst rfl ⟨by decide, by decide⟩ ?_
  refine x_iadd (z := k + 1) rfl rfl ⟨by omega, by omega⟩ ?_
  refine x_sald (i0 := 0) rfl (by decide) (by omega) (by omega) h1 ?_
  refine g_aload_n rfl rfl ?_
  refine g_iload_n rfl rfl ?_
  refine g_iconst rfl ⟨by decide, by decide⟩ ?_
  refine x_iadd (z := k + 2) rfl rfl ⟨by omega, by omega⟩ ?_
  refine x_sald (i0 := 0) rfl (by decide) (by omega) (by omega) h2 ?_
  refine g_aload_n rfl rfl ?_
  refine g_iload_n rfl rfl ?_
  refine g_iconst rfl ⟨by decide, by decide⟩ ?_
  refine x_iadd (z := k + 3) rfl rfl ⟨by omega, by omega⟩ ?_
  refine x_sald (i0 := 0) rfl (by decide) (by omega) (by omega) h3 ?_
  refine g_aload_n rfl rfl ?_
  refine g_iload_n rfl rfl ?_
  refine g_iconst rfl ⟨by decide, by decide⟩ ?_
  refine x_iadd (z := k + 4) rfl rfl ⟨by omega, by omega⟩ ?_
  refine x_sald (i0 := 0) rfl (by decide) (by omega) (by omega) h4 ?_
  refine g_cV (as := [tI x1, tI x2, tI x3, tI x4]) hk1 rfl rfl mX12_open_ok rfl rfl rfl (by decide) rfl rfl rfl ?_
  rintro _ μ2 ⟨rfl, hR2⟩ _
  refine g_icmp_eq (tgt := 1206) rfl (by decide) (fun _ => ?_) (fun hx => absurd rfl hx)
  exact K μ2 hR2
set_option maxHeartbeats 4000000 in
set_option maxRecDepth 100000 in
theorem law_c10 {G : tp_G} (hG : tp_Gf G = true) {μ : tp_M} (hR : tp_R μ) {k : Int} (h0 : 0 ≤ k) (hk6 : k + 6 ≤ (tp_sl G 0 : Int)) (hN : (tp_sl G 0 : Int) ≤ 3072) {Φ : Option tp_V → tp_M → Prop} (K : ∀ μ', tp_R μ' → tp_g G mL_law 1206 [some (tR (some 5000)), some (tR (some 0)), some (tR (some 201)), some (tI k)] [] μ' Φ) : tp_g G mL_law 558 [some (tR (some 5000)), some (tR (some 0)), some (tR (some 201)), some (tI k)] [] μ Φ := by
  obtain ⟨x1, h1⟩ : ∃ x, tp_sv G 0 (k + 1).toNat = x := ⟨_, rfl⟩
  obtain ⟨x2, h2⟩ : ∃ x, tp_sv G 0 (k + 2).toNat = x := ⟨_, rfl⟩
  obtain ⟨x3, h3⟩ : ∃ x, tp_sv G 0 (k + 3).toNat = x := ⟨_, rfl⟩
  obtain ⟨x4, h4⟩ : ∃ x, tp_sv G 0 (k + 4).toNat = x := ⟨_, rfl⟩
  obtain ⟨x5, h5⟩ : ∃ x, tp_sv G 0 (k + 5).toNat = x := ⟨_, rfl⟩
  refine g_aload_n rfl rfl ?_
  refine g_aload_n rfl rfl ?_
  refine g_iload_n rfl rfl ?_
  refine g_iconst rfl ⟨by decide, by decide⟩ ?_
  refine x_iadd (z := k + 1) rfl rfl ⟨by omega, by omega⟩ ?_
  refine x_sald (i0 := 0) rfl (by decide) (by omega) (by omega) h1 ?_
  refine g_aload_n rfl rfl ?_
  refine g_iload_n rfl rfl ?_
  refine g_iconst rfl ⟨by decide, by decide⟩ ?_
  refine x_iadd (z := k + 2) rfl rfl ⟨by omega, by omega⟩ ?_
  refine x_sald (i0 := 0) rfl (by decide) (by omega) (by omega) h2 ?_
  refine g_aload_n rfl rfl ?_
  refine g_iload_n rfl rfl ?_
  refine g_iconst rfl ⟨by decide, by decide⟩ ?_
  refine x_iadd (z := k + 3) rfl rfl ⟨by omega, by omega⟩ ?_
  refine x_sald (i0 := 0) rfl (by decide) (by omega) (by omega) h3 ?_
  refine g_cV (as := [tI x1, tI x2, tI x3]) (p_apart hG μ hR) rfl rfl mX11_apart_ok rfl rfl rfl (by decide) rfl rfl rfl ?_
  rintro _ μ1 ⟨v, rfl, hk1⟩ _
  refine g_aload_n rfl rfl ?_
  refine g_aload_n rfl rfl ?_
  refine g_iload_n rfl rfl ?_
  refine g_iconst rfl ⟨by decide, by decide⟩ ?_
  refine x_iadd (z := k + 1) rfl rfl ⟨by omega, by omega⟩ ?_
  refine x_sald (i0 := 0) rfl (by decide) (by omega) (by omega) h1 ?_
  refine g_aload_n rfl rfl ?_
  refine g_iload_n rfl rfl ?_
  refine g_iconst rfl ⟨by decide, by decide⟩ ?_
  refine x_iadd (z := k + 2) rfl rfl ⟨by omega, by omega⟩ ?_
  refine x_sald (i0 := 0) rfl (by decide) (by omega) (by omega) h2 ?_
  refine g_aload_n rfl rfl ?_
  refine g_iload_n rfl rfl ?_
  refine g_iconst rfl ⟨by decide, by decide⟩ ?_
  refine x_iadd (z := k + 3) rfl rfl ⟨by omega, by omega⟩ ?_
  refine x_sald (i0 := 0) rfl (by decide) (by omega) (by omega) h3 ?_
  refine g_cV (as := [tI x1, tI x2, tI x3]) hk1 rfl rfl mX12_apart_ok rfl rfl rfl (by decide) rfl rfl rfl ?_
  rintro _ μ2 ⟨rfl, hR2⟩ _
  refine g_icmp_eq (tgt := 1206) rfl (by decide) (fun _ => ?_) (fun hx => absurd rfl hx)
  exact K μ2 hR2
set_option maxHeartbeats 4000000 in
set_option maxRecDepth 100000 in
theorem law_c11 {G : tp_G} (hG : tp_Gf G = true) {μ : tp_M} (hR : tp_R μ) {k : Int} (h0 : 0 ≤ k) (hk6 : k + 6 ≤ (tp_sl G 0 : Int)) (hN : (tp_sl G 0 : Int) ≤ 3072) {Φ : Option tp_V → tp_M → Prop} (K : ∀ μ', tp_R μ' → tp_g G mL_law 1206 [some (tR (some 5000)), some (tR (some 0)), some (tR (some 201)), some (tI k)] [] μ' Φ) : tp_g G mL_law 601 [some (tR (some 5000)), some (tR (some 0)), some (tR (some 201)), some (tI k)] [] μ Φ := by
  obtain ⟨x1, h1⟩ : ∃ x, tp_sv G 0 (k + 1).toNat = x := ⟨_, rfl⟩
  obtain ⟨x2, h2⟩ : ∃ x, tp_sv G 0 (k + 2).toNat = x := ⟨_, rfl⟩
  obtain ⟨x3, h3⟩ : ∃ x, tp_sv G 0 (k + 3).toNat = x := ⟨_, rfl⟩
  obtain ⟨x4, h4⟩ : ∃ x, tp_sv G 0 (k + 4).toNat = x := ⟨_, rfl⟩
  obtain ⟨x5, h5⟩ : ∃ x, tp_sv G 0 (k + 5).toNat = x := ⟨_, rfl⟩
  refine g_aload_n rfl rfl ?_
  refine g_aload_n rfl rfl ?_
  refine g_iload_n rfl rfl ?_
  refine g_iconst rfl ⟨by decide, by decide⟩ ?_
  refine x_iadd (z := k + 1) rfl rfl ⟨by omega, by omega⟩ ?_
  refine x_sald (i0 := 0) rfl (by decide) (by omega) (by omega) h1 ?_
  refine g_aload_n rfl rfl ?_
  refine g_iload_n rfl rfl ?_
  refine g_iconst rfl ⟨by decide, by decide⟩ ?_
  refine x_iadd (z := k + 2) rfl rfl ⟨by omega, by omega⟩ ?_
  refine x_sald (i0 := 0) rfl (by decide) (by omega) (by omega) h2 ?_
  refine g_cV (as := [tI x1, tI x2]) (p_head hG μ hR) rfl rfl mX11_head_ok rfl rfl rfl (by decide) rfl rfl rfl ?_
  rintro _ μ1 ⟨v, rfl, hk1⟩ _
  refine g_aload_n rfl rfl ?_
  refine g_aload_n rfl rfl ?_
  refine g_iload_n rfl rfl ?_
  refine g_iconst rfl ⟨by decide, by decide⟩ ?_
  refine x_iadd (z := k + 1) rfl rfl ⟨by omega, by omega⟩ ?_
  refine x_sald (i0 := 0) rfl (by decide) (by omega) (by omega) h1 ?_
  refine g_aload_n rfl rfl ?_
  refine g_iload_n rfl rfl ?_
  refine g_iconst rfl ⟨by decide, by decide⟩ ?_
  refine x_iadd (z := k + 2) rfl rfl ⟨by omega, by omega⟩ ?_
  refine x_sald (i0 := 0) rfl (by decide) (by omega) (by omega) h2 ?_
  refine g_cV (as := [tI x1, tI x2]) hk1 rfl rfl mX12_head_ok rfl rfl rfl (by decide) rfl rfl rfl ?_
  rintro _ μ2 ⟨rfl, hR2⟩ _
  refine g_icmp_eq (tgt := 1206) rfl (by decide) (fun _ => ?_) (fun hx => absurd rfl hx)
  exact K μ2 hR2
set_option maxHeartbeats 4000000 in
set_option maxRecDepth 100000 in
theorem law_c12 {G : tp_G} (hG : tp_Gf G = true) {μ : tp_M} (hR : tp_R μ) {k : Int} (h0 : 0 ≤ k) (hk6 : k + 6 ≤ (tp_sl G 0 : Int)) (hN : (tp_sl G 0 : Int) ≤ 3072) {Φ : Option tp_V → tp_M → Prop} (K : ∀ μ', tp_R μ' → tp_g G mL_law 1206 [some (tR (some 5000)), some (tR (some 0)), some (tR (some 201)), some (tI k)] [] μ' Φ) : tp_g G mL_law 634 [some (tR (some 5000)), some (tR (some 0)), some (tR (some 201)), some (tI k)] [] μ Φ := by
  obtain ⟨x1, h1⟩ : ∃ x, tp_sv G 0 (k + 1).toNat = x := ⟨_, rfl⟩
  obtain ⟨x2, h2⟩ : ∃ x, tp_sv G 0 (k + 2).toNat = x := ⟨_, rfl⟩
  obtain ⟨x3, h3⟩ : ∃ x, tp_sv G 0 (k + 3).toNat = x := ⟨_, rfl⟩
  obtain ⟨x4, h4⟩ : ∃ x, tp_sv G 0 (k + 4).toNat = x := ⟨_, rfl⟩
  obtain ⟨x5, h5⟩ : ∃ x, tp_sv G 0 (k + 5).toNat = x := ⟨_, rfl⟩
  refine g_aload_n rfl rfl ?_
  refine g_aload_n rfl rfl ?_
  refine g_iload_n rfl rfl ?_
  refine g_iconst rfl ⟨by decide, by decide⟩ ?_
  refine x_iadd (z := k + 1) rfl rfl ⟨by omega, by omega⟩ ?_
  refine x_sald (i0 := 0) rfl (by decide) (by omega) (by omega) h1 ?_
  refine g_aload_n rfl rfl ?_
  refine g_iload_n rfl rfl ?_
  refine g_iconst rfl ⟨by decide, by decide⟩ ?_
  refine x_iadd (z := k + 2) rfl rfl ⟨by omega, by omega⟩ ?_
  refine x_sald (i0 := 0) rfl (by decide) (by omega) (by omega) h2 ?_
  refine g_cV (as := [tI x1, tI x2]) (p_block hG μ hR) rfl rfl mX11_block_ok rfl rfl rfl (by decide) rfl rfl rfl ?_
  rintro _ μ1 ⟨v, rfl, hk1⟩ _
  refine g_aload_n rfl rfl ?_
  refine g_aload_n rfl rfl ?_
  refine g_iload_n rfl rfl ?_
  refine g_iconst rfl ⟨by decide, by decide⟩ ?_
  refine x_iadd (z := k + 1) rfl rfl ⟨by omega, by omega⟩ ?_
  refine x_sald (i0 := 0) rfl (by decide) (by omega) (by omega) h1 ?_
  refine g_aload_n rfl rfl ?_
  refine g_iload_n rfl rfl ?_
  refine g_iconst rfl ⟨by decide, by decide⟩ ?_
  refine x_iadd (z := k + 2) rfl rfl ⟨by omega, by omega⟩ ?_
  refine x_sald (i0 := 0) rfl (by decide) (by omega) (by omega) h2 ?_
  refine g_cV (as := [tI x1, tI x2]) hk1 rfl rfl mX12_block_ok rfl rfl rfl (by decide) rfl rfl rfl ?_
  rintro _ μ2 ⟨rfl, hR2⟩ _
  refine g_icmp_eq (tgt := 1206) rfl (by decide) (fun _ => ?_) (fun hx => absurd rfl hx)
  exact K μ2 hR2
set_option maxHeartbeats 4000000 in
set_option maxRecDepth 100000 in
theorem law_c13 {G : tp_G} (hG : tp_Gf G = true) {μ : tp_M} (hR : tp_R μ) {k : Int} (h0 : 0 ≤ k) (hk6 : k + 6 ≤ (tp_sl G 0 : Int)) (hN : (tp_sl G 0 : Int) ≤ 3072) {Φ : Option tp_V → tp_M → Prop} (K : ∀ μ', tp_R μ' → tp_g G mL_law 1206 [some (tR (some 5000)), some (tR (some 0)), some (tR (some 201)), some (tI k)] [] μ' Φ) : tp_g G mL_law 667 [some (tR (some 5000)), some (tR (some 0)), some (tR (some 201)), some (tI k)] [] μ Φ := by
  obtain ⟨x1, h1⟩ : ∃ x, tp_sv G 0 (k + 1).toNat = x := ⟨_, rfl⟩
  obtain ⟨x2, h2⟩ : ∃ x, tp_sv G 0 (k + 2).toNat = x := ⟨_, rfl⟩
  obtain ⟨x3, h3⟩ : ∃ x, tp_sv G 0 (k + 3).toNat = x := ⟨_, rfl⟩
  obtain ⟨x4, h4⟩ : ∃ x, tp_sv G 0 (k + 4).toNat = x := ⟨_, rfl⟩
  obtain ⟨x5, h5⟩ : ∃ x, tp_sv G 0 (k + 5).toNat = x := ⟨_, rfl⟩
  refine g_aload_n rfl rfl ?_
  refine g_aload_n rfl rfl ?_
  refine g_iload_n rfl rfl ?_
  refine g_iconst rfl ⟨by decide, by decide⟩ ?_
  refine x_iadd (z := k + 1) rfl rfl ⟨by omega, by omega⟩ ?_
  refine x_sald (i0 := 0) rfl (by decide) (by omega) (by omega) h1 ?_
  refine g_aload_n rfl rfl ?_
  refine g_iload_n rfl rfl ?_
  refine g_iconst rfl ⟨by decide, by decide⟩ ?_
  refine x_iadd (z := k + 2) rfl rfl ⟨by omega, by omega⟩ ?_
  refine x_sald (i0 := 0) rfl (by decide) (by omega) (by omega) h2 ?_
  refine g_aload_n rfl rfl ?_
  refine g_iload_n rfl rfl ?_
  refine g_iconst rfl ⟨by decide, by decide⟩ ?_
  refine x_iadd (z := k + 3) rfl rfl ⟨by omega, by omega⟩ ?_
  refine x_sald (i0 := 0) rfl (by decide) (by omega) (by omega) h3 ?_
  refine g_aload_n rfl rfl ?_
  refine g_iload_n rfl rfl ?_
  refine g_iconst rfl ⟨by decide, by decide⟩ ?_
  refine x_iadd (z := k + 4) rfl rfl ⟨by omega, by omega⟩ ?_
  refine x_sald (i0 := 0) rfl (by decide) (by omega) (by omega) h4 ?_
  refine g_cV (as := [tI x1, tI x2, tI x3, tI x4]) (p_packet hG μ hR) rfl rfl mX11_packet_ok rfl rfl rfl (by decide) rfl rfl rfl ?_
  rintro _ μ1 ⟨v, rfl, hk1⟩ _
  refine g_aload_n rfl rfl ?_
  refine g_aload_n rfl rfl ?_
  refine g_iload_n rfl rfl ?_
  refine g_iconst rfl ⟨by decide, by decide⟩ ?_
  refine x_iadd (z := k + 1) rfl rfl ⟨by omega, by omega⟩ ?_
  refine x_sald (i0 := 0) rfl (by decide) (by omega) (by omega) h1 ?_
  refine g_aload_n rfl rfl ?_
  refine g_iload_n rfl rfl ?_
  refine g_iconst rfl ⟨by decide, by decide⟩ ?_
  refine x_iadd (z := k + 2) rfl rfl ⟨by omega, by omega⟩ ?_
  refine x_sald (i0 := 0) rfl (by decide) (by omega) (by omega) h2 ?_
  refine g_aload_n rfl rfl ?_
  refine g_iload_n rfl rfl ?_
  refine g_iconst rfl ⟨by decide, by decide⟩ ?_
  refine x_iadd (z := k + 3) rfl rfl ⟨by omega, by omega⟩ ?_
  refine x_sald (i0 := 0) rfl (by decide) (by omega) (by omega) h3 ?_
  refine g_aload_n rfl rfl ?_
  refine g_iload_n rfl rfl ?_
  refine g_iconst rfl ⟨by decide, by decide⟩ ?_
  refine x_iadd (z := k + 4) rfl rfl ⟨by omega, by omega⟩ ?_
  refine x_sald (i0 := 0) rfl (by decide) (by omega) (by omega) h4 ?_
  refine g_cV (as := [tI x1, tI x2, tI x3, tI x4]) hk1 rfl rfl mX12_packet_ok rfl rfl rfl (by decide) rfl rfl rfl ?_
  rintro _ μ2 ⟨rfl, hR2⟩ _
  refine g_icmp_eq (tgt := 1206) rfl (by decide) (fun _ => ?_) (fun hx => absurd rfl hx)
  exact K μ2 hR2
set_option maxHeartbeats 4000000 in
set_option maxRecDepth 100000 in
theorem law_c14 {G : tp_G} (hG : tp_Gf G = true) {μ : tp_M} (hR : tp_R μ) {k : Int} (h0 : 0 ≤ k) (hk6 : k + 6 ≤ (tp_sl G 0 : Int)) (hN : (tp_sl G 0 : Int) ≤ 3072) {Φ : Option tp_V → tp_M → Prop} (K : ∀ μ', tp_R μ' → tp_g G mL_law 1206 [some (tR (some 5000)), some (tR (some 0)), some (tR (some 201)), some (tI k)] [] μ' Φ) : tp_g G mL_law 720 [some (tR (some 5000)), some (tR (some 0)), some (tR (some 201)), some (tI k)] [] μ Φ := by
  obtain ⟨x1, h1⟩ : ∃ x, tp_sv G 0 (k + 1).toNat = x := ⟨_, rfl⟩
  obtain ⟨x2, h2⟩ : ∃ x, tp_sv G 0 (k + 2).toNat = x := ⟨_, rfl⟩
  obtain ⟨x3, h3⟩ : ∃ x, tp_sv G 0 (k + 3).toNat = x := ⟨_, rfl⟩
  obtain ⟨x4, h4⟩ : ∃ x, tp_sv G 0 (k + 4).toNat = x := ⟨_, rfl⟩
  obtain ⟨x5, h5⟩ : ∃ x, tp_sv G 0 (k + 5).toNat = x := ⟨_, rfl⟩
  refine g_aload_n rfl rfl ?_
  refine g_aload_n rfl rfl ?_
  refine g_iload_n rfl rfl ?_
  refine g_iconst rfl ⟨by decide, by decide⟩ ?_
  refine x_iadd (z := k + 1) rfl rfl ⟨by omega, by omega⟩ ?_
  refine x_sald (i0 := 0) rfl (by decide) (by omega) (by omega) h1 ?_
  refine g_aload_n rfl rfl ?_
  refine g_iload_n rfl rfl ?_
  refine g_iconst rfl ⟨by decide, by decide⟩ ?_
  refine x_iadd (z := k + 2) rfl rfl ⟨by omega, by omega⟩ ?_
  refine x_sald (i0 := 0) rfl (by decide) (by omega) (by omega) h2 ?_
  refine g_aload_n rfl rfl ?_
  refine g_iload_n rfl rfl ?_
  refine g_iconst rfl ⟨by decide, by decide⟩ ?_
  refine x_iadd (z := k + 3) rfl rfl ⟨by omega, by omega⟩ ?_
  refine x_sald (i0 := 0) rfl (by decide) (by omega) (by omega) h3 ?_
  refine g_cV (as := [tI x1, tI x2, tI x3]) (p_sent hG μ hR) rfl rfl mX11_sent_ok rfl rfl rfl (by decide) rfl rfl rfl ?_
  rintro _ μ1 ⟨v, rfl, hk1⟩ _
  refine g_aload_n rfl rfl ?_
  refine g_aload_n rfl rfl ?_
  refine g_iload_n rfl rfl ?_
  refine g_iconst rfl ⟨by decide, by decide⟩ ?_
  refine x_iadd (z := k + 1) rfl rfl ⟨by omega, by omega⟩ ?_
  refine x_sald (i0 := 0) rfl (by decide) (by omega) (by omega) h1 ?_
  refine g_aload_n rfl rfl ?_
  refine g_iload_n rfl rfl ?_
  refine g_iconst rfl ⟨by decide, by decide⟩ ?_
  refine x_iadd (z := k + 2) rfl rfl ⟨by omega, by omega⟩ ?_
  refine x_sald (i0 := 0) rfl (by decide) (by omega) (by omega) h2 ?_
  refine g_aload_n rfl rfl ?_
  refine g_iload_n rfl rfl ?_
  refine g_iconst rfl ⟨by decide, by decide⟩ ?_
  refine x_iadd (z := k + 3) rfl rfl ⟨by omega, by omega⟩ ?_
  refine x_sald (i0 := 0) rfl (by decide) (by omega) (by omega) h3 ?_
  refine g_cV (as := [tI x1, tI x2, tI x3]) hk1 rfl rfl mX12_sent_ok rfl rfl rfl (by decide) rfl rfl rfl ?_
  rintro _ μ2 ⟨rfl, hR2⟩ _
  refine g_icmp_eq (tgt := 1206) rfl (by decide) (fun _ => ?_) (fun hx => absurd rfl hx)
  exact K μ2 hR2
set_option maxHeartbeats 4000000 in
set_option maxRecDepth 100000 in
theorem law_c15 {G : tp_G} (hG : tp_Gf G = true) {μ : tp_M} (hR : tp_R μ) {k : Int} (h0 : 0 ≤ k) (hk6 : k + 6 ≤ (tp_sl G 0 : Int)) (hN : (tp_sl G 0 : Int) ≤ 3072) {Φ : Option tp_V → tp_M → Prop} (K : ∀ μ', tp_R μ' → tp_g G mL_law 1206 [some (tR (some 5000)), some (tR (some 0)), some (tR (some 201)), some (tI k)] [] μ' Φ) : tp_g G mL_law 763 [some (tR (some 5000)), some (tR (some 0)), some (tR (some 201)), some (tI k)] [] μ Φ := by
  obtain ⟨x1, h1⟩ : ∃ x, tp_sv G 0 (k + 1).toNat = x := ⟨_, rfl⟩
  obtain ⟨x2, h2⟩ : ∃ x, tp_sv G 0 (k + 2).toNat = x := ⟨_, rfl⟩
  obtain ⟨x3, h3⟩ : ∃ x, tp_sv G 0 (k + 3).toNat = x := ⟨_, rfl⟩
  obtain ⟨x4, h4⟩ : ∃ x, tp_sv G 0 (k + 4).toNat = x := ⟨_, rfl⟩
  obtain ⟨x5, h5⟩ : ∃ x, tp_sv G 0 (k + 5).toNat = x := ⟨_, rfl⟩
  refine g_aload_n rfl rfl ?_
  refine g_aload_n rfl rfl ?_
  refine g_iload_n rfl rfl ?_
  refine g_iconst rfl ⟨by decide, by decide⟩ ?_
  refine x_iadd (z := k + 1) rfl rfl ⟨by omega, by omega⟩ ?_
  refine x_sald (i0 := 0) rfl (by decide) (by omega) (by omega) h1 ?_
  refine g_aload_n rfl rfl ?_
  refine g_iload_n rfl rfl ?_
  refine g_iconst rfl ⟨by decide, by decide⟩ ?_
  refine x_iadd (z := k + 2) rfl rfl ⟨by omega, by omega⟩ ?_
  refine x_sald (i0 := 0) rfl (by decide) (by omega) (by omega) h2 ?_
  refine g_aload_n rfl rfl ?_
  refine g_iload_n rfl rfl ?_
  refine g_iconst rfl ⟨by decide, by decide⟩ ?_
  refine x_iadd (z := k + 3) rfl rfl ⟨by omega, by omega⟩ ?_
  refine x_sald (i0 := 0) rfl (by decide) (by omega) (by omega) h3 ?_
  refine g_aload_n rfl rfl ?_
  refine g_iload_n rfl rfl ?_
  refine g_iconst rfl ⟨by decide, by decide⟩ ?_
  refine x_iadd (z := k + 4) rfl rfl ⟨by omega, by omega⟩ ?_
  refine x_sald (i0 := 0) rfl (by decide) (by omega) (by omega) h4 ?_
  refine g_sfit (fun hft => ?_)
  refine g_cV (as := [tI x1, tI x2, tI x3, tI x4]) (p_rebuilt hG (hft _ List.mem_cons_self) μ hR) rfl rfl mX11_rebuilt_ok rfl rfl rfl (by decide) rfl rfl rfl ?_
  rintro _ μ1 ⟨v, rfl, hk1⟩ _
  refine g_aload_n rfl rfl ?_
  refine g_aload_n rfl rfl ?_
  refine g_iload_n rfl rfl ?_
  refine g_iconst rfl ⟨by decide, by decide⟩ ?_
  refine x_iadd (z := k + 1) rfl rfl ⟨by omega, by omega⟩ ?_
  refine x_sald (i0 := 0) rfl (by decide) (by omega) (by omega) h1 ?_
  refine g_aload_n rfl rfl ?_
  refine g_iload_n rfl rfl ?_
  refine g_iconst rfl ⟨by decide, by decide⟩ ?_
  refine x_iadd (z := k + 2) rfl rfl ⟨by omega, by omega⟩ ?_
  refine x_sald (i0 := 0) rfl (by decide) (by omega) (by omega) h2 ?_
  refine g_aload_n rfl rfl ?_
  refine g_iload_n rfl rfl ?_
  refine g_iconst rfl ⟨by decide, by decide⟩ ?_
  refine x_iadd (z := k + 3) rfl rfl ⟨by omega, by omega⟩ ?_
  refine x_sald (i0 := 0) rfl (by decide) (by omega) (by omega) h3 ?_
  refine g_aload_n rfl rfl ?_
  refine g_iload_n rfl rfl ?_
  refine g_iconst rfl ⟨by decide, by decide⟩ ?_
  refine x_iadd (z := k + 4) rfl rfl ⟨by omega, by omega⟩ ?_
  refine x_sald (i0 := 0) rfl (by decide) (by omega) (by omega) h4 ?_
  refine g_cV (as := [tI x1, tI x2, tI x3, tI x4]) hk1 rfl rfl mX12_rebuilt_ok rfl rfl rfl (by decide) rfl rfl rfl ?_
  rintro _ μ2 ⟨rfl, hR2⟩ _
  refine g_icmp_eq (tgt := 1206) rfl (by decide) (fun _ => ?_) (fun hx => absurd rfl hx)
  exact K μ2 hR2
set_option maxHeartbeats 4000000 in
set_option maxRecDepth 100000 in
theorem law_c16 {G : tp_G} (hG : tp_Gf G = true) {μ : tp_M} (hR : tp_R μ) {k : Int} (h0 : 0 ≤ k) (hk6 : k + 6 ≤ (tp_sl G 0 : Int)) (hN : (tp_sl G 0 : Int) ≤ 3072) {Φ : Option tp_V → tp_M → Prop} (K : ∀ μ', tp_R μ' → tp_g G mL_law 1206 [some (tR (some 5000)), some (tR (some 0)), some (tR (some 201)), some (tI k)] [] μ' Φ) : tp_g G mL_law 816 [some (tR (some 5000)), some (tR (some 0)), some (tR (some 201)), some (tI k)] [] μ Φ := by
  obtain ⟨x1, h1⟩ : ∃ x, tp_sv G 0 (k + 1).toNat = x := ⟨_, rfl⟩
  obtain ⟨x2, h2⟩ : ∃ x, tp_sv G 0 (k + 2).toNat = x := ⟨_, rfl⟩
  obtain ⟨x3, h3⟩ : ∃ x, tp_sv G 0 (k + 3).toNat = x := ⟨_, rfl⟩
  obtain ⟨x4, h4⟩ : ∃ x, tp_sv G 0 (k + 4).toNat = x := ⟨_, rfl⟩
  obtain ⟨x5, h5⟩ : ∃ x, tp_sv G 0 (k + 5).toNat = x := ⟨_, rfl⟩
  refine g_aload_n rfl rfl ?_
  refine g_aload_n rfl rfl ?_
  refine g_iload_n rfl rfl ?_
  refine g_iconst rfl ⟨by decide, by decide⟩ ?_
  refine x_iadd (z := k + 1) rfl rfl ⟨by omega, by omega⟩ ?_
  refine x_sald (i0 := 0) rfl (by decide) (by omega) (by omega) h1 ?_
  refine g_aload_n rfl rfl ?_
  refine g_iload_n rfl rfl ?_
  refine g_iconst rfl ⟨by decide, by decide⟩ ?_
  refine x_iadd (z := k + 2) rfl rfl ⟨by omega, by omega⟩ ?_
  refine x_sald (i0 := 0) rfl (by decide) (by omega) (by omega) h2 ?_
  refine g_aload_n rfl rfl ?_
  refine g_iload_n rfl rfl ?_
  refine g_iconst rfl ⟨by decide, by decide⟩ ?_
  refine x_iadd (z := k + 3) rfl rfl ⟨by omega, by omega⟩ ?_
  refine x_sald (i0 := 0) rfl (by decide) (by omega) (by omega) h3 ?_
  refine g_aload_n rfl rfl ?_
  refine g_iload_n rfl rfl ?_
  refine g_iconst rfl ⟨by decide, by decide⟩ ?_
  refine x_iadd (z := k + 4) rfl rfl ⟨by omega, by omega⟩ ?_
  refine x_sald (i0 := 0) rfl (by decide) (by omega) (by omega) h4 ?_
  refine g_cV (as := [tI x1, tI x2, tI x3, tI x4]) (p_missed hG μ hR) rfl rfl mX11_missed_ok rfl rfl rfl (by decide) rfl rfl rfl ?_
  rintro _ μ1 ⟨v, rfl, hk1⟩ _
  refine g_aload_n rfl rfl ?_
  refine g_aload_n rfl rfl ?_
  refine g_iload_n rfl rfl ?_
  refine g_iconst rfl ⟨by decide, by decide⟩ ?_
  refine x_iadd (z := k + 1) rfl rfl ⟨by omega, by omega⟩ ?_
  refine x_sald (i0 := 0) rfl (by decide) (by omega) (by omega) h1 ?_
  refine g_aload_n rfl rfl ?_
  refine g_iload_n rfl rfl ?_
  refine g_iconst rfl ⟨by decide, by decide⟩ ?_
  refine x_iadd (z := k + 2) rfl rfl ⟨by omega, by omega⟩ ?_
  refine x_sald (i0 := 0) rfl (by decide) (by omega) (by omega) h2 ?_
  refine g_aload_n rfl rfl ?_
  refine g_iload_n rfl rfl ?_
  refine g_iconst rfl ⟨by decide, by decide⟩ ?_
  refine x_iadd (z := k + 3) rfl rfl ⟨by omega, by omega⟩ ?_
  refine x_sald (i0 := 0) rfl (by decide) (by omega) (by omega) h3 ?_
  refine g_aload_n rfl rfl ?_
  refine g_iload_n rfl rfl ?_
  refine g_iconst rfl ⟨by decide, by decide⟩ ?_
  refine x_iadd (z := k + 4) rfl rfl ⟨by omega, by omega⟩ ?_
  refine x_sald (i0 := 0) rfl (by decide) (by omega) (by omega) h4 ?_
  refine g_cV (as := [tI x1, tI x2, tI x3, tI x4]) hk1 rfl rfl mX12_missed_ok rfl rfl rfl (by decide) rfl rfl rfl ?_
  rintro _ μ2 ⟨rfl, hR2⟩ _
  refine g_icmp_eq (tgt := 1206) rfl (by decide) (fun _ => ?_) (fun hx => absurd rfl hx)
  exact K μ2 hR2
set_option maxHeartbeats 4000000 in
set_option maxRecDepth 100000 in
theorem law_c17 {G : tp_G} (hG : tp_Gf G = true) {μ : tp_M} (hR : tp_R μ) {k : Int} (h0 : 0 ≤ k) (hk6 : k + 6 ≤ (tp_sl G 0 : Int)) (hN : (tp_sl G 0 : Int) ≤ 3072) {Φ : Option tp_V → tp_M → Prop} (K : ∀ μ', tp_R μ' → tp_g G mL_law 1206 [some (tR (some 5000)), some (tR (some 0)), some (tR (some 201)), some (tI k)] [] μ' Φ) : tp_g G mL_law 869 [some (tR (some 5000)), some (tR (some 0)), some (tR (some 201)), some (tI k)] [] μ Φ := by
  obtain ⟨x1, h1⟩ : ∃ x, tp_sv G 0 (k + 1).toNat = x := ⟨_, rfl⟩
  obtain ⟨x2, h2⟩ : ∃ x, tp_sv G 0 (k + 2).toNat = x := ⟨_, rfl⟩
  obtain ⟨x3, h3⟩ : ∃ x, tp_sv G 0 (k + 3).toNat = x := ⟨_, rfl⟩
  obtain ⟨x4, h4⟩ : ∃ x, tp_sv G 0 (k + 4).toNat = x := ⟨_, rfl⟩
  obtain ⟨x5, h5⟩ : ∃ x, tp_sv G 0 (k + 5).toNat = x := ⟨_, rfl⟩
  refine g_aload_n rfl rfl ?_
  refine g_aload_n rfl rfl ?_
  refine g_iload_n rfl rfl ?_
  refine g_iconst rfl ⟨by decide, by decide⟩ ?_
  refine x_iadd (z := k + 1) rfl rfl ⟨by omega, by omega⟩ ?_
  refine x_sald (i0 := 0) rfl (by decide) (by omega) (by omega) h1 ?_
  refine g_aload_n rfl rfl ?_
  refine g_iload_n rfl rfl ?_
  refine g_iconst rfl ⟨by decide, by decide⟩ ?_
  refine x_iadd (z := k + 2) rfl rfl ⟨by omega, by omega⟩ ?_
  refine x_sald (i0 := 0) rfl (by decide) (by omega) (by omega) h2 ?_
  refine g_aload_n rfl rfl ?_
  refine g_iload_n rfl rfl ?_
  refine g_iconst rfl ⟨by decide, by decide⟩ ?_
  refine x_iadd (z := k + 3) rfl rfl ⟨by omega, by omega⟩ ?_
  refine x_sald (i0 := 0) rfl (by decide) (by omega) (by omega) h3 ?_
  refine g_cV (as := [tI x1, tI x2, tI x3]) (p_visits hG μ hR) rfl rfl mX11_visits_ok rfl rfl rfl (by decide) rfl rfl rfl ?_
  rintro _ μ1 ⟨v, rfl, hk1⟩ _
  refine g_aload_n rfl rfl ?_
  refine g_aload_n rfl rfl ?_
  refine g_iload_n rfl rfl ?_
  refine g_iconst rfl ⟨by decide, by decide⟩ ?_
  refine x_iadd (z := k + 1) rfl rfl ⟨by omega, by omega⟩ ?_
  refine x_sald (i0 := 0) rfl (by decide) (by omega) (by omega) h1 ?_
  refine g_aload_n rfl rfl ?_
  refine g_iload_n rfl rfl ?_
  refine g_iconst rfl ⟨by decide, by decide⟩ ?_
  refine x_iadd (z := k + 2) rfl rfl ⟨by omega, by omega⟩ ?_
  refine x_sald (i0 := 0) rfl (by decide) (by omega) (by omega) h2 ?_
  refine g_aload_n rfl rfl ?_
  refine g_iload_n rfl rfl ?_
  refine g_iconst rfl ⟨by decide, by decide⟩ ?_
  refine x_iadd (z := k + 3) rfl rfl ⟨by omega, by omega⟩ ?_
  refine x_sald (i0 := 0) rfl (by decide) (by omega) (by omega) h3 ?_
  refine g_cV (as := [tI x1, tI x2, tI x3]) hk1 rfl rfl mX12_visits_ok rfl rfl rfl (by decide) rfl rfl rfl ?_
  rintro _ μ2 ⟨rfl, hR2⟩ _
  refine g_icmp_eq (tgt := 1206) rfl (by decide) (fun _ => ?_) (fun hx => absurd rfl hx)
  exact K μ2 hR2
set_option maxHeartbeats 4000000 in
set_option maxRecDepth 100000 in
theorem law_c18 {G : tp_G} (hG : tp_Gf G = true) {μ : tp_M} (hR : tp_R μ) {k : Int} (h0 : 0 ≤ k) (hk6 : k + 6 ≤ (tp_sl G 0 : Int)) (hN : (tp_sl G 0 : Int) ≤ 3072) {Φ : Option tp_V → tp_M → Prop} (K : ∀ μ', tp_R μ' → tp_g G mL_law 1206 [some (tR (some 5000)), some (tR (some 0)), some (tR (some 201)), some (tI k)] [] μ' Φ) : tp_g G mL_law 912 [some (tR (some 5000)), some (tR (some 0)), some (tR (some 201)), some (tI k)] [] μ Φ := by
  obtain ⟨x1, h1⟩ : ∃ x, tp_sv G 0 (k + 1).toNat = x := ⟨_, rfl⟩
  obtain ⟨x2, h2⟩ : ∃ x, tp_sv G 0 (k + 2).toNat = x := ⟨_, rfl⟩
  obtain ⟨x3, h3⟩ : ∃ x, tp_sv G 0 (k + 3).toNat = x := ⟨_, rfl⟩
  obtain ⟨x4, h4⟩ : ∃ x, tp_sv G 0 (k + 4).toNat = x := ⟨_, rfl⟩
  obtain ⟨x5, h5⟩ : ∃ x, tp_sv G 0 (k + 5).toNat = x := ⟨_, rfl⟩
  refine g_aload_n rfl rfl ?_
  refine g_aload_n rfl rfl ?_
  refine g_iload_n rfl rfl ?_
  refine g_iconst rfl ⟨by decide, by decide⟩ ?_
  refine x_iadd (z := k + 1) rfl rfl ⟨by omega, by omega⟩ ?_
  refine x_sald (i0 := 0) rfl (by decide) (by omega) (by omega) h1 ?_
  refine g_aload_n rfl rfl ?_
  refine g_iload_n rfl rfl ?_
  refine g_iconst rfl ⟨by decide, by decide⟩ ?_
  refine x_iadd (z := k + 2) rfl rfl ⟨by omega, by omega⟩ ?_
  refine x_sald (i0 := 0) rfl (by decide) (by omega) (by omega) h2 ?_
  refine g_aload_n rfl rfl ?_
  refine g_iload_n rfl rfl ?_
  refine g_iconst rfl ⟨by decide, by decide⟩ ?_
  refine x_iadd (z := k + 3) rfl rfl ⟨by omega, by omega⟩ ?_
  refine x_sald (i0 := 0) rfl (by decide) (by omega) (by omega) h3 ?_
  refine g_cV (as := [tI x1, tI x2, tI x3]) (p_hot hG μ hR) rfl rfl mX11_hot_ok rfl rfl rfl (by decide) rfl rfl rfl ?_
  rintro _ μ1 ⟨v, rfl, hk1⟩ _
  refine g_aload_n rfl rfl ?_
  refine g_aload_n rfl rfl ?_
  refine g_iload_n rfl rfl ?_
  refine g_iconst rfl ⟨by decide, by decide⟩ ?_
  refine x_iadd (z := k + 1) rfl rfl ⟨by omega, by omega⟩ ?_
  refine x_sald (i0 := 0) rfl (by decide) (by omega) (by omega) h1 ?_
  refine g_aload_n rfl rfl ?_
  refine g_iload_n rfl rfl ?_
  refine g_iconst rfl ⟨by decide, by decide⟩ ?_
  refine x_iadd (z := k + 2) rfl rfl ⟨by omega, by omega⟩ ?_
  refine x_sald (i0 := 0) rfl (by decide) (by omega) (by omega) h2 ?_
  refine g_aload_n rfl rfl ?_
  refine g_iload_n rfl rfl ?_
  refine g_iconst rfl ⟨by decide, by decide⟩ ?_
  refine x_iadd (z := k + 3) rfl rfl ⟨by omega, by omega⟩ ?_
  refine x_sald (i0 := 0) rfl (by decide) (by omega) (by omega) h3 ?_
  refine g_cV (as := [tI x1, tI x2, tI x3]) hk1 rfl rfl mX12_hot_ok rfl rfl rfl (by decide) rfl rfl rfl ?_
  rintro _ μ2 ⟨rfl, hR2⟩ _
  refine g_icmp_eq (tgt := 1206) rfl (by decide) (fun _ => ?_) (fun hx => absurd rfl hx)
  exact K μ2 hR2
set_option maxHeartbeats 4000000 in
set_option maxRecDepth 100000 in
theorem law_c19 {G : tp_G} (hG : tp_Gf G = true) {μ : tp_M} (hR : tp_R μ) {k : Int} (h0 : 0 ≤ k) (hk6 : k + 6 ≤ (tp_sl G 0 : Int)) (hN : (tp_sl G 0 : Int) ≤ 3072) {Φ : Option tp_V → tp_M → Prop} (K : ∀ μ', tp_R μ' → tp_g G mL_law 1206 [some (tR (some 5000)), some (tR (some 0)), some (tR (some 201)), some (tI k)] [] μ' Φ) : tp_g G mL_law 955 [some (tR (some 5000)), some (tR (some 0)), some (tR (some 201)), some (tI k)] [] μ Φ := by
  obtain ⟨x1, h1⟩ : ∃ x, tp_sv G 0 (k + 1).toNat = x := ⟨_, rfl⟩
  obtain ⟨x2, h2⟩ : ∃ x, tp_sv G 0 (k + 2).toNat = x := ⟨_, rfl⟩
  obtain ⟨x3, h3⟩ : ∃ x, tp_sv G 0 (k + 3).toNat = x := ⟨_, rfl⟩
  obtain ⟨x4, h4⟩ : ∃ x, tp_sv G 0 (k + 4).toNat = x := ⟨_, rfl⟩
  obtain ⟨x5, h5⟩ : ∃ x, tp_sv G 0 (k + 5).toNat = x := ⟨_, rfl⟩
  refine g_aload_n rfl rfl ?_
  refine g_aload_n rfl rfl ?_
  refine g_iload_n rfl rfl ?_
  refine g_iconst rfl ⟨by decide, by decide⟩ ?_
  refine x_iadd (z := k + 1) rfl rfl ⟨by omega, by omega⟩ ?_
  refine x_sald (i0 := 0) rfl (by decide) (by omega) (by omega) h1 ?_
  refine g_aload_n rfl rfl ?_
  refine g_iload_n rfl rfl ?_
  refine g_iconst rfl ⟨by decide, by decide⟩ ?_
  refine x_iadd (z := k + 2) rfl rfl ⟨by omega, by omega⟩ ?_
  refine x_sald (i0 := 0) rfl (by decide) (by omega) (by omega) h2 ?_
  refine g_cV (as := [tI x1, tI x2]) (p_dead hG μ hR) rfl rfl mX11_dead_ok rfl rfl rfl (by decide) rfl rfl rfl ?_
  rintro _ μ1 ⟨v, rfl, hk1⟩ _
  refine g_aload_n rfl rfl ?_
  refine g_aload_n rfl rfl ?_
  refine g_iload_n rfl rfl ?_
  refine g_iconst rfl ⟨by decide, by decide⟩ ?_
  refine x_iadd (z := k + 1) rfl rfl ⟨by omega, by omega⟩ ?_
  refine x_sald (i0 := 0) rfl (by decide) (by omega) (by omega) h1 ?_
  refine g_aload_n rfl rfl ?_
  refine g_iload_n rfl rfl ?_
  refine g_iconst rfl ⟨by decide, by decide⟩ ?_
  refine x_iadd (z := k + 2) rfl rfl ⟨by omega, by omega⟩ ?_
  refine x_sald (i0 := 0) rfl (by decide) (by omega) (by omega) h2 ?_
  refine g_cV (as := [tI x1, tI x2]) hk1 rfl rfl mX12_dead_ok rfl rfl rfl (by decide) rfl rfl rfl ?_
  rintro _ μ2 ⟨rfl, hR2⟩ _
  refine g_icmp_eq (tgt := 1206) rfl (by decide) (fun _ => ?_) (fun hx => absurd rfl hx)
  exact K μ2 hR2
set_option maxHeartbeats 4000000 in
set_option maxRecDepth 100000 in
theorem law_c20 {G : tp_G} (hG : tp_Gf G = true) {μ : tp_M} (hR : tp_R μ) {k : Int} (h0 : 0 ≤ k) (hk6 : k + 6 ≤ (tp_sl G 0 : Int)) (hN : (tp_sl G 0 : Int) ≤ 3072) {Φ : Option tp_V → tp_M → Prop} (K : ∀ μ', tp_R μ' → tp_g G mL_law 1206 [some (tR (some 5000)), some (tR (some 0)), some (tR (some 201)), some (tI k)] [] μ' Φ) : tp_g G mL_law 988 [some (tR (some 5000)), some (tR (some 0)), some (tR (some 201)), some (tI k)] [] μ Φ := by
  obtain ⟨x1, h1⟩ : ∃ x, tp_sv G 0 (k + 1).toNat = x := ⟨_, rfl⟩
  obtain ⟨x2, h2⟩ : ∃ x, tp_sv G 0 (k + 2).toNat = x := ⟨_, rfl⟩
  obtain ⟨x3, h3⟩ : ∃ x, tp_sv G 0 (k + 3).toNat = x := ⟨_, rfl⟩
  obtain ⟨x4, h4⟩ : ∃ x, tp_sv G 0 (k + 4).toNat = x := ⟨_, rfl⟩
  obtain ⟨x5, h5⟩ : ∃ x, tp_sv G 0 (k + 5).toNat = x := ⟨_, rfl⟩
  refine g_aload_n rfl rfl ?_
  refine g_aload_n rfl rfl ?_
  refine g_iload_n rfl rfl ?_
  refine g_iconst rfl ⟨by decide, by decide⟩ ?_
  refine x_iadd (z := k + 1) rfl rfl ⟨by omega, by omega⟩ ?_
  refine x_sald (i0 := 0) rfl (by decide) (by omega) (by omega) h1 ?_
  refine g_aload_n rfl rfl ?_
  refine g_iload_n rfl rfl ?_
  refine g_iconst rfl ⟨by decide, by decide⟩ ?_
  refine x_iadd (z := k + 2) rfl rfl ⟨by omega, by omega⟩ ?_
  refine x_sald (i0 := 0) rfl (by decide) (by omega) (by omega) h2 ?_
  refine g_aload_n rfl rfl ?_
  refine g_iload_n rfl rfl ?_
  refine g_iconst rfl ⟨by decide, by decide⟩ ?_
  refine x_iadd (z := k + 3) rfl rfl ⟨by omega, by omega⟩ ?_
  refine x_sald (i0 := 0) rfl (by decide) (by omega) (by omega) h3 ?_
  refine g_cV (as := [tI x1, tI x2, tI x3]) (p_fact hG μ hR) rfl rfl mX11_fact_ok rfl rfl rfl (by decide) rfl rfl rfl ?_
  rintro _ μ1 ⟨v, rfl, hk1⟩ _
  refine g_aload_n rfl rfl ?_
  refine g_aload_n rfl rfl ?_
  refine g_iload_n rfl rfl ?_
  refine g_iconst rfl ⟨by decide, by decide⟩ ?_
  refine x_iadd (z := k + 1) rfl rfl ⟨by omega, by omega⟩ ?_
  refine x_sald (i0 := 0) rfl (by decide) (by omega) (by omega) h1 ?_
  refine g_aload_n rfl rfl ?_
  refine g_iload_n rfl rfl ?_
  refine g_iconst rfl ⟨by decide, by decide⟩ ?_
  refine x_iadd (z := k + 2) rfl rfl ⟨by omega, by omega⟩ ?_
  refine x_sald (i0 := 0) rfl (by decide) (by omega) (by omega) h2 ?_
  refine g_aload_n rfl rfl ?_
  refine g_iload_n rfl rfl ?_
  refine g_iconst rfl ⟨by decide, by decide⟩ ?_
  refine x_iadd (z := k + 3) rfl rfl ⟨by omega, by omega⟩ ?_
  refine x_sald (i0 := 0) rfl (by decide) (by omega) (by omega) h3 ?_
  refine g_cV (as := [tI x1, tI x2, tI x3]) hk1 rfl rfl mX12_fact_ok rfl rfl rfl (by decide) rfl rfl rfl ?_
  rintro _ μ2 ⟨rfl, hR2⟩ _
  refine g_icmp_eq (tgt := 1206) rfl (by decide) (fun _ => ?_) (fun hx => absurd rfl hx)
  exact K μ2 hR2
set_option maxHeartbeats 4000000 in
set_option maxRecDepth 100000 in
theorem law_c21 {G : tp_G} (hG : tp_Gf G = true) {μ : tp_M} (hR : tp_R μ) {k : Int} (h0 : 0 ≤ k) (hk6 : k + 6 ≤ (tp_sl G 0 : Int)) (hN : (tp_sl G 0 : Int) ≤ 3072) {Φ : Option tp_V → tp_M → Prop} (K : ∀ μ', tp_R μ' → tp_g G mL_law 1206 [some (tR (some 5000)), some (tR (some 0)), some (tR (some 201)), some (tI k)] [] μ' Φ) : tp_g G mL_law 1031 [some (tR (some 5000)), some (tR (some 0)), some (tR (some 201)), some (tI k)] [] μ Φ := by
  obtain ⟨x1, h1⟩ : ∃ x, tp_sv G 0 (k + 1).toNat = x := ⟨_, rfl⟩
  obtain ⟨x2, h2⟩ : ∃ x, tp_sv G 0 (k + 2).toNat = x := ⟨_, rfl⟩
  obtain ⟨x3, h3⟩ : ∃ x, tp_sv G 0 (k + 3).toNat = x := ⟨_, rfl⟩
  obtain ⟨x4, h4⟩ : ∃ x, tp_sv G 0 (k + 4).toNat = x := ⟨_, rfl⟩
  obtain ⟨x5, h5⟩ : ∃ x, tp_sv G 0 (k + 5).toNat = x := ⟨_, rfl⟩
  refine g_aload_n rfl rfl ?_
  refine g_aload_n rfl rfl ?_
  refine g_iload_n rfl rfl ?_
  refine g_iconst rfl ⟨by decide, by decide⟩ ?_
  refine x_iadd (z := k + 1) rfl rfl ⟨by omega, by omega⟩ ?_
  refine x_sald (i0 := 0) rfl (by decide) (by omega) (by omega) h1 ?_
  refine g_aload_n rfl rfl ?_
  refine g_iload_n rfl rfl ?_
  refine g_iconst rfl ⟨by decide, by decide⟩ ?_
  refine x_iadd (z := k + 2) rfl rfl ⟨by omega, by omega⟩ ?_
  refine x_sald (i0 := 0) rfl (by decide) (by omega) (by omega) h2 ?_
  refine g_aload_n rfl rfl ?_
  refine g_iload_n rfl rfl ?_
  refine g_iconst rfl ⟨by decide, by decide⟩ ?_
  refine x_iadd (z := k + 3) rfl rfl ⟨by omega, by omega⟩ ?_
  refine x_sald (i0 := 0) rfl (by decide) (by omega) (by omega) h3 ?_
  refine g_aload_n rfl rfl ?_
  refine g_iload_n rfl rfl ?_
  refine g_iconst rfl ⟨by decide, by decide⟩ ?_
  refine x_iadd (z := k + 4) rfl rfl ⟨by omega, by omega⟩ ?_
  refine x_sald (i0 := 0) rfl (by decide) (by omega) (by omega) h4 ?_
  refine g_sfit (fun hft => ?_)
  refine g_cV (as := [tI x1, tI x2, tI x3, tI x4]) (p_fits hG (hft _ List.mem_cons_self) μ hR) rfl rfl mX11_fits_ok rfl rfl rfl (by decide) rfl rfl rfl ?_
  rintro _ μ1 ⟨v, rfl, hk1⟩ _
  refine g_aload_n rfl rfl ?_
  refine g_aload_n rfl rfl ?_
  refine g_iload_n rfl rfl ?_
  refine g_iconst rfl ⟨by decide, by decide⟩ ?_
  refine x_iadd (z := k + 1) rfl rfl ⟨by omega, by omega⟩ ?_
  refine x_sald (i0 := 0) rfl (by decide) (by omega) (by omega) h1 ?_
  refine g_aload_n rfl rfl ?_
  refine g_iload_n rfl rfl ?_
  refine g_iconst rfl ⟨by decide, by decide⟩ ?_
  refine x_iadd (z := k + 2) rfl rfl ⟨by omega, by omega⟩ ?_
  refine x_sald (i0 := 0) rfl (by decide) (by omega) (by omega) h2 ?_
  refine g_aload_n rfl rfl ?_
  refine g_iload_n rfl rfl ?_
  refine g_iconst rfl ⟨by decide, by decide⟩ ?_
  refine x_iadd (z := k + 3) rfl rfl ⟨by omega, by omega⟩ ?_
  refine x_sald (i0 := 0) rfl (by decide) (by omega) (by omega) h3 ?_
  refine g_aload_n rfl rfl ?_
  refine g_iload_n rfl rfl ?_
  refine g_iconst rfl ⟨by decide, by decide⟩ ?_
  refine x_iadd (z := k + 4) rfl rfl ⟨by omega, by omega⟩ ?_
  refine x_sald (i0 := 0) rfl (by decide) (by omega) (by omega) h4 ?_
  refine g_cV (as := [tI x1, tI x2, tI x3, tI x4]) hk1 rfl rfl mX12_fits_ok rfl rfl rfl (by decide) rfl rfl rfl ?_
  rintro _ μ2 ⟨rfl, hR2⟩ _
  refine g_icmp_eq (tgt := 1206) rfl (by decide) (fun _ => ?_) (fun hx => absurd rfl hx)
  exact K μ2 hR2
set_option maxHeartbeats 4000000 in
set_option maxRecDepth 100000 in
theorem law_c22 {G : tp_G} (hG : tp_Gf G = true) {μ : tp_M} (hR : tp_R μ) {k : Int} (h0 : 0 ≤ k) (hk6 : k + 6 ≤ (tp_sl G 0 : Int)) (hN : (tp_sl G 0 : Int) ≤ 3072) {Φ : Option tp_V → tp_M → Prop} (K : ∀ μ', tp_R μ' → tp_g G mL_law 1206 [some (tR (some 5000)), some (tR (some 0)), some (tR (some 201)), some (tI k)] [] μ' Φ) : tp_g G mL_law 1084 [some (tR (some 5000)), some (tR (some 0)), some (tR (some 201)), some (tI k)] [] μ Φ := by
  obtain ⟨x1, h1⟩ : ∃ x, tp_sv G 0 (k + 1).toNat = x := ⟨_, rfl⟩
  obtain ⟨x2, h2⟩ : ∃ x, tp_sv G 0 (k + 2).toNat = x := ⟨_, rfl⟩
  obtain ⟨x3, h3⟩ : ∃ x, tp_sv G 0 (k + 3).toNat = x := ⟨_, rfl⟩
  obtain ⟨x4, h4⟩ : ∃ x, tp_sv G 0 (k + 4).toNat = x := ⟨_, rfl⟩
  obtain ⟨x5, h5⟩ : ∃ x, tp_sv G 0 (k + 5).toNat = x := ⟨_, rfl⟩
  refine g_aload_n rfl rfl ?_
  refine g_aload_n rfl rfl ?_
  refine g_iload_n rfl rfl ?_
  refine g_iconst rfl ⟨by decide, by decide⟩ ?_
  refine x_iadd (z := k + 1) rfl rfl ⟨by omega, by omega⟩ ?_
  refine x_sald (i0 := 0) rfl (by decide) (by omega) (by omega) h1 ?_
  refine g_aload_n rfl rfl ?_
  refine g_iload_n rfl rfl ?_
  refine g_iconst rfl ⟨by decide, by decide⟩ ?_
  refine x_iadd (z := k + 2) rfl rfl ⟨by omega, by omega⟩ ?_
  refine x_sald (i0 := 0) rfl (by decide) (by omega) (by omega) h2 ?_
  refine g_aload_n rfl rfl ?_
  refine g_iload_n rfl rfl ?_
  refine g_iconst rfl ⟨by decide, by decide⟩ ?_
  refine x_iadd (z := k + 3) rfl rfl ⟨by omega, by omega⟩ ?_
  refine x_sald (i0 := 0) rfl (by decide) (by omega) (by omega) h3 ?_
  refine g_aload_n rfl rfl ?_
  refine g_iload_n rfl rfl ?_
  refine g_iconst rfl ⟨by decide, by decide⟩ ?_
  refine x_iadd (z := k + 4) rfl rfl ⟨by omega, by omega⟩ ?_
  refine x_sald (i0 := 0) rfl (by decide) (by omega) (by omega) h4 ?_
  refine g_cV (as := [tI x1, tI x2, tI x3, tI x4]) (p_drawn hG μ hR) rfl rfl mX11_drawn_ok rfl rfl rfl (by decide) rfl rfl rfl ?_
  rintro _ μ1 ⟨v, rfl, hk1⟩ _
  refine g_aload_n rfl rfl ?_
  refine g_aload_n rfl rfl ?_
  refine g_iload_n rfl rfl ?_
  refine g_iconst rfl ⟨by decide, by decide⟩ ?_
  refine x_iadd (z := k + 1) rfl rfl ⟨by omega, by omega⟩ ?_
  refine x_sald (i0 := 0) rfl (by decide) (by omega) (by omega) h1 ?_
  refine g_aload_n rfl rfl ?_
  refine g_iload_n rfl rfl ?_
  refine g_iconst rfl ⟨by decide, by decide⟩ ?_
  refine x_iadd (z := k + 2) rfl rfl ⟨by omega, by omega⟩ ?_
  refine x_sald (i0 := 0) rfl (by decide) (by omega) (by omega) h2 ?_
  refine g_aload_n rfl rfl ?_
  refine g_iload_n rfl rfl ?_
  refine g_iconst rfl ⟨by decide, by decide⟩ ?_
  refine x_iadd (z := k + 3) rfl rfl ⟨by omega, by omega⟩ ?_
  refine x_sald (i0 := 0) rfl (by decide) (by omega) (by omega) h3 ?_
  refine g_aload_n rfl rfl ?_
  refine g_iload_n rfl rfl ?_
  refine g_iconst rfl ⟨by decide, by decide⟩ ?_
  refine x_iadd (z := k + 4) rfl rfl ⟨by omega, by omega⟩ ?_
  refine x_sald (i0 := 0) rfl (by decide) (by omega) (by omega) h4 ?_
  refine g_cV (as := [tI x1, tI x2, tI x3, tI x4]) hk1 rfl rfl mX12_drawn_ok rfl rfl rfl (by decide) rfl rfl rfl ?_
  rintro _ μ2 ⟨rfl, hR2⟩ _
  refine g_icmp_eq (tgt := 1206) rfl (by decide) (fun _ => ?_) (fun hx => absurd rfl hx)
  exact K μ2 hR2
set_option maxHeartbeats 4000000 in
set_option maxRecDepth 100000 in
theorem law_c23 {G : tp_G} (hG : tp_Gf G = true) {μ : tp_M} (hR : tp_R μ) {k : Int} (h0 : 0 ≤ k) (hk6 : k + 6 ≤ (tp_sl G 0 : Int)) (hN : (tp_sl G 0 : Int) ≤ 3072) {Φ : Option tp_V → tp_M → Prop} (K : ∀ μ', tp_R μ' → tp_g G mL_law 1206 [some (tR (some 5000)), some (tR (some 0)), some (tR (some 201)), some (tI k)] [] μ' Φ) : tp_g G mL_law 1137 [some (tR (some 5000)), some (tR (some 0)), some (tR (some 201)), some (tI k)] [] μ Φ := by
  obtain ⟨x1, h1⟩ : ∃ x, tp_sv G 0 (k + 1).toNat = x := ⟨_, rfl⟩
  obtain ⟨x2, h2⟩ : ∃ x, tp_sv G 0 (k + 2).toNat = x := ⟨_, rfl⟩
  obtain ⟨x3, h3⟩ : ∃ x, tp_sv G 0 (k + 3).toNat = x := ⟨_, rfl⟩
  obtain ⟨x4, h4⟩ : ∃ x, tp_sv G 0 (k + 4).toNat = x := ⟨_, rfl⟩
  obtain ⟨x5, h5⟩ : ∃ x, tp_sv G 0 (k + 5).toNat = x := ⟨_, rfl⟩
  refine g_aload_n rfl rfl ?_
  refine g_aload_n rfl rfl ?_
  refine g_iload_n rfl rfl ?_
  refine g_iconst rfl ⟨by decide, by decide⟩ ?_
  refine x_iadd (z := k + 1) rfl rfl ⟨by omega, by omega⟩ ?_
  refine x_sald (i0 := 0) rfl (by decide) (by omega) (by omega) h1 ?_
  refine g_cV (as := [tI x1]) (p_count hG μ hR) rfl rfl mX11_count_ok rfl rfl rfl (by decide) rfl rfl rfl ?_
  rintro _ μ1 ⟨v, rfl, hk1⟩ _
  refine g_aload_n rfl rfl ?_
  refine g_aload_n rfl rfl ?_
  refine g_iload_n rfl rfl ?_
  refine g_iconst rfl ⟨by decide, by decide⟩ ?_
  refine x_iadd (z := k + 1) rfl rfl ⟨by omega, by omega⟩ ?_
  refine x_sald (i0 := 0) rfl (by decide) (by omega) (by omega) h1 ?_
  refine g_cV (as := [tI x1]) hk1 rfl rfl mX12_count_ok rfl rfl rfl (by decide) rfl rfl rfl ?_
  rintro _ μ2 ⟨rfl, hR2⟩ _
  refine g_icmp_eq (tgt := 1206) rfl (by decide) (fun _ => ?_) (fun hx => absurd rfl hx)
  exact K μ2 hR2
set_option maxHeartbeats 4000000 in
set_option maxRecDepth 100000 in
theorem law_c24 {G : tp_G} (hG : tp_Gf G = true) {μ : tp_M} (hR : tp_R μ) {k : Int} (h0 : 0 ≤ k) (hk6 : k + 6 ≤ (tp_sl G 0 : Int)) (hN : (tp_sl G 0 : Int) ≤ 3072) {Φ : Option tp_V → tp_M → Prop} (K : ∀ μ', tp_R μ' → tp_g G mL_law 1206 [some (tR (some 5000)), some (tR (some 0)), some (tR (some 201)), some (tI k)] [] μ' Φ) : tp_g G mL_law 1160 [some (tR (some 5000)), some (tR (some 0)), some (tR (some 201)), some (tI k)] [] μ Φ := by
  obtain ⟨x1, h1⟩ : ∃ x, tp_sv G 0 (k + 1).toNat = x := ⟨_, rfl⟩
  obtain ⟨x2, h2⟩ : ∃ x, tp_sv G 0 (k + 2).toNat = x := ⟨_, rfl⟩
  obtain ⟨x3, h3⟩ : ∃ x, tp_sv G 0 (k + 3).toNat = x := ⟨_, rfl⟩
  obtain ⟨x4, h4⟩ : ∃ x, tp_sv G 0 (k + 4).toNat = x := ⟨_, rfl⟩
  obtain ⟨x5, h5⟩ : ∃ x, tp_sv G 0 (k + 5).toNat = x := ⟨_, rfl⟩
  refine g_aload_n rfl rfl ?_
  refine g_aload_n rfl rfl ?_
  refine g_iload_n rfl rfl ?_
  refine g_iconst rfl ⟨by decide, by decide⟩ ?_
  refine x_iadd (z := k + 1) rfl rfl ⟨by omega, by omega⟩ ?_
  refine x_sald (i0 := 0) rfl (by decide) (by omega) (by omega) h1 ?_
  refine g_cV (as := [tI x1]) (p_image hG μ hR) rfl rfl mX11_image_ok rfl rfl rfl (by decide) rfl rfl rfl ?_
  rintro _ μ1 ⟨v, rfl, hk1⟩ _
  refine g_aload_n rfl rfl ?_
  refine g_aload_n rfl rfl ?_
  refine g_iload_n rfl rfl ?_
  refine g_iconst rfl ⟨by decide, by decide⟩ ?_
  refine x_iadd (z := k + 1) rfl rfl ⟨by omega, by omega⟩ ?_
  refine x_sald (i0 := 0) rfl (by decide) (by omega) (by omega) h1 ?_
  refine g_cV (as := [tI x1]) hk1 rfl rfl mX12_image_ok rfl rfl rfl (by decide) rfl rfl rfl ?_
  rintro _ μ2 ⟨rfl, hR2⟩ _
  refine g_icmp_eq (tgt := 1206) rfl (by decide) (fun _ => ?_) (fun hx => absurd rfl hx)
  exact K μ2 hR2
set_option maxHeartbeats 4000000 in
set_option maxRecDepth 100000 in
theorem law_c25 {G : tp_G} (hG : tp_Gf G = true) {μ : tp_M} (hR : tp_R μ) {k : Int} (h0 : 0 ≤ k) (hk6 : k + 6 ≤ (tp_sl G 0 : Int)) (hN : (tp_sl G 0 : Int) ≤ 3072) {Φ : Option tp_V → tp_M → Prop} (K : ∀ μ', tp_R μ' → tp_g G mL_law 1206 [some (tR (some 5000)), some (tR (some 0)), some (tR (some 201)), some (tI k)] [] μ' Φ) : tp_g G mL_law 1183 [some (tR (some 5000)), some (tR (some 0)), some (tR (some 201)), some (tI k)] [] μ Φ := by
  obtain ⟨x1, h1⟩ : ∃ x, tp_sv G 0 (k + 1).toNat = x := ⟨_, rfl⟩
  obtain ⟨x2, h2⟩ : ∃ x, tp_sv G 0 (k + 2).toNat = x := ⟨_, rfl⟩
  obtain ⟨x3, h3⟩ : ∃ x, tp_sv G 0 (k + 3).toNat = x := ⟨_, rfl⟩
  obtain ⟨x4, h4⟩ : ∃ x, tp_sv G 0 (k + 4).toNat = x := ⟨_, rfl⟩
  obtain ⟨x5, h5⟩ : ∃ x, tp_sv G 0 (k + 5).toNat = x := ⟨_, rfl⟩
  refine g_aload_n rfl rfl ?_
  refine g_aload_n rfl rfl ?_
  refine g_iload_n rfl rfl ?_
  refine g_iconst rfl ⟨by decide, by decide⟩ ?_
  refine x_iadd (z := k + 1) rfl rfl ⟨by omega, by omega⟩ ?_
  refine x_sald (i0 := 0) rfl (by decide) (by omega) (by omega) h1 ?_
  refine g_cV (as := [tI x1]) (p_again hG μ hR) rfl rfl mX11_again_ok rfl rfl rfl (by decide) rfl rfl rfl ?_
  rintro _ μ1 ⟨v, rfl, hk1⟩ _
  refine g_aload_n rfl rfl ?_
  refine g_aload_n rfl rfl ?_
  refine g_iload_n rfl rfl ?_
  refine g_iconst rfl ⟨by decide, by decide⟩ ?_
  refine x_iadd (z := k + 1) rfl rfl ⟨by omega, by omega⟩ ?_
  refine x_sald (i0 := 0) rfl (by decide) (by omega) (by omega) h1 ?_
  refine g_cV (as := [tI x1]) hk1 rfl rfl mX12_again_ok rfl rfl rfl (by decide) rfl rfl rfl ?_
  rintro _ μ2 ⟨rfl, hR2⟩ _
  refine g_icmp_eq (tgt := 1206) rfl (by decide) (fun _ => ?_) (fun hx => absurd rfl hx)
  exact K μ2 hR2
set_option maxHeartbeats 4000000 in
set_option maxRecDepth 100000 in
theorem law_go {G : tp_G} (hG : tp_Gf G = true) (hN : (tp_sl G 0 : Int) ≤ 3072) : ∀ (m : Nat) (k : Int) (μ : tp_M), 0 ≤ k → k ≤ 4000 → (tp_sl G 0 : Int) - k ≤ (m : Int) → tp_R μ → tp_g G mL_law 18 [some (tR (some 5000)), some (tR (some 0)), some (tR (some 201)), some (tI k)] [] μ (fun r _ => r = some (tI 1)) := by
  intro m
  induction m with
  | zero =>
    intro k μ h0 h4 hm hR
    refine g_iload_n rfl rfl ?_
    refine g_aload_n rfl rfl ?_
    refine g_slen (i0 := 0) rfl (by decide) ⟨by omega, by omega⟩ ?_
    refine g_bipush rfl ⟨by decide, by decide⟩ (by decide) ?_
    refine x_isub (z := (tp_sl G 0 : Int) - 6) rfl rfl ⟨by omega, by omega⟩ ?_
    refine g_icmp_gt (tgt := 1212) rfl (by decide) (fun _ => ?_) (fun hx => absurd (by omega) hx)
    refine g_iconst rfl ⟨by decide, by decide⟩ ?_
    exact x_zreturn rfl rfl (Or.inr rfl) rfl
  | succ m ih =>
    intro k μ h0 h4 hm hR
    refine g_iload_n rfl rfl ?_
    refine g_aload_n rfl rfl ?_
    refine g_slen (i0 := 0) rfl (by decide) ⟨by omega, by omega⟩ ?_
    refine g_bipush rfl ⟨by decide, by decide⟩ (by decide) ?_
    refine x_isub (z := (tp_sl G 0 : Int) - 6) rfl rfl ⟨by omega, by omega⟩ ?_
    refine g_icmp_gt (tgt := 1212) rfl (by decide) (fun _ => ?_) (fun hx => ?_)
    · refine g_iconst rfl ⟨by decide, by decide⟩ ?_
      exact x_zreturn rfl rfl (Or.inr rfl) rfl
    have K : ∀ μ', tp_R μ' → tp_g G mL_law 1206 [some (tR (some 5000)), some (tR (some 0)), some (tR (some 201)), some (tI k)] [] μ' (fun r _ => r = some (tI 1)) := fun μ' hR' => by
      refine x_iinc (z := k + 6) rfl rfl rfl ⟨by omega, by omega⟩ rfl rfl ?_
      refine g_goto (tgt := 18) rfl (by decide) ?_
      exact ih (k + 6) μ' (by omega) (by omega) (by omega) hR'
    refine g_aload_n rfl rfl ?_
    refine g_iload_n rfl rfl ?_
    refine g_sald (i0 := 0) rfl (by decide) (by omega) (by omega) ?_
    refine g_bipush rfl ⟨by decide, by decide⟩ (by decide) ?_
    refine g_iand rfl ?_
    generalize tp_and (tp_sv G 0 k.toNat) 31 = q
    rcases (show (q < 0 ∨ 25 < q) ∨ q = 0 ∨ q = 1 ∨ q = 2 ∨ q = 3 ∨ q = 4 ∨ q = 5 ∨ q = 6 ∨ q = 7 ∨ q = 8 ∨ q = 9 ∨ q = 10 ∨ q = 11 ∨ q = 12 ∨ q = 13 ∨ q = 14 ∨ q = 15 ∨ q = 16 ∨ q = 17 ∨ q = 18 ∨ q = 19 ∨ q = 20 ∨ q = 21 ∨ q = 22 ∨ q = 23 ∨ q = 24 ∨ q = 25 by omega) with u | rfl | rfl | rfl | rfl | rfl | rfl | rfl | rfl | rfl | rfl | rfl | rfl | rfl | rfl | rfl | rfl | rfl | rfl | rfl | rfl | rfl | rfl | rfl | rfl | rfl | rfl
    · exact g_swOut (tgt := 1206) rfl u (by decide) (K μ hR)
    · exact g_swIn (tgt := 152) rfl (by decide) (by decide) rfl (by decide) (law_c0 hG hR h0 (by omega) hN K)
    · exact g_swIn (tgt := 215) rfl (by decide) (by decide) rfl (by decide) (law_c1 hG hR h0 (by omega) hN K)
    · exact g_swIn (tgt := 238) rfl (by decide) (by decide) rfl (by decide) (law_c2 hG hR h0 (by omega) hN K)
    · exact g_swIn (tgt := 271) rfl (by decide) (by decide) rfl (by decide) (law_c3 hG hR h0 (by omega) hN K)
    · exact g_swIn (tgt := 294) rfl (by decide) (by decide) rfl (by decide) (law_c4 hG hR h0 (by omega) hN K)
    · exact g_swIn (tgt := 327) rfl (by decide) (by decide) rfl (by decide) (law_c5 hG hR h0 (by omega) hN K)
    · exact g_swIn (tgt := 360) rfl (by decide) (by decide) rfl (by decide) (law_c6 hG hR h0 (by omega) hN K)
    · exact g_swIn (tgt := 393) rfl (by decide) (by decide) rfl (by decide) (law_c7 hG hR h0 (by omega) hN K)
    · exact g_swIn (tgt := 436) rfl (by decide) (by decide) rfl (by decide) (law_c8 hG hR h0 (by omega) hN K)
    · exact g_swIn (tgt := 505) rfl (by decide) (by decide) rfl (by decide) (law_c9 hG hR h0 (by omega) hN K)
    · exact g_swIn (tgt := 558) rfl (by decide) (by decide) rfl (by decide) (law_c10 hG hR h0 (by omega) hN K)
    · exact g_swIn (tgt := 601) rfl (by decide) (by decide) rfl (by decide) (law_c11 hG hR h0 (by omega) hN K)
    · exact g_swIn (tgt := 634) rfl (by decide) (by decide) rfl (by decide) (law_c12 hG hR h0 (by omega) hN K)
    · exact g_swIn (tgt := 667) rfl (by decide) (by decide) rfl (by decide) (law_c13 hG hR h0 (by omega) hN K)
    · exact g_swIn (tgt := 720) rfl (by decide) (by decide) rfl (by decide) (law_c14 hG hR h0 (by omega) hN K)
    · exact g_swIn (tgt := 763) rfl (by decide) (by decide) rfl (by decide) (law_c15 hG hR h0 (by omega) hN K)
    · exact g_swIn (tgt := 816) rfl (by decide) (by decide) rfl (by decide) (law_c16 hG hR h0 (by omega) hN K)
    · exact g_swIn (tgt := 869) rfl (by decide) (by decide) rfl (by decide) (law_c17 hG hR h0 (by omega) hN K)
    · exact g_swIn (tgt := 912) rfl (by decide) (by decide) rfl (by decide) (law_c18 hG hR h0 (by omega) hN K)
    · exact g_swIn (tgt := 955) rfl (by decide) (by decide) rfl (by decide) (law_c19 hG hR h0 (by omega) hN K)
    · exact g_swIn (tgt := 988) rfl (by decide) (by decide) rfl (by decide) (law_c20 hG hR h0 (by omega) hN K)
    · exact g_swIn (tgt := 1031) rfl (by decide) (by decide) rfl (by decide) (law_c21 hG hR h0 (by omega) hN K)
    · exact g_swIn (tgt := 1084) rfl (by decide) (by decide) rfl (by decide) (law_c22 hG hR h0 (by omega) hN K)
    · exact g_swIn (tgt := 1137) rfl (by decide) (by decide) rfl (by decide) (law_c23 hG hR h0 (by omega) hN K)
    · exact g_swIn (tgt := 1160) rfl (by decide) (by decide) rfl (by decide) (law_c24 hG hR h0 (by omega) hN K)
    · exact g_swIn (tgt := 1183) rfl (by decide) (by decide) rfl (by decide) (law_c25 hG hR h0 (by omega) hN K)
/-- the law out of its loop -/
theorem law_all (G : tp_G) (hG : tp_Gf G = true) (hL : tp_GL G ≤ 3072) : tp_go G mL_law 18 [some (tR (some 5000)), some (tR (some 0)), some (tR (some 201)), some (tI 0)] [] tp_mm116 234 234 0 (fun r _ => r = some (tI 1)) :=
  law_go hG (show ((tp_GL G : Nat) : Int) ≤ 3072 by omega) (tp_GL G) 0 tp_mm116 (by decide) (by decide) (show ((tp_GL G : Nat) : Int) - 0 ≤ (tp_GL G : Int) by omega) tp_R0
