/-! the encoding, as mathematics: cell 0 (0 waiting, 1 map, 2 its size, 3 last, 4 counted, 5 on, 6 blind, 7 dropped, 8 fullest, 9 puts, 10 the shadow's size, 11 how far the map tells, 12 sum), 1 the shadow, 2 kinds, 3 values, 4 extras, 5 steps, 6 known, 7 bits -/
def e_0 : tp_M := (fun _ _ => 0, fun _ _ => none)
def e_drop (σ : tp_M) : tp_M := tp_pi (tp_pi (tp_pi (tp_pi (tp_pi σ 0 7 (tp_w (σ.1 0 7 + 1))) 0 1 0) 0 2 0) 0 6 1) 0 5 0
def e_add (kd v x b t kn : Int) (σ : tp_M) : tp_M := tp_pi (tp_pi (tp_pi (tp_pi (tp_pi (tp_pi (tp_pi (tp_pi (tp_pi (tp_pi σ 0 0 (σ.1 0 0 + 1)) 0 8 (max (σ.1 0 8) (σ.1 0 0 + 1))) 2 (σ.1 0 9) kd) 3 (σ.1 0 9) v) 4 (σ.1 0 9) x) 7 (σ.1 0 9) b) 5 (σ.1 0 9) t) 6 (σ.1 0 9) kn) 0 12 (tp_w (σ.1 0 12 + b))) 0 9 (σ.1 0 9 + 1)
def e_put (f : Int → Int) (kd v x b t kn : Int) (σ : tp_M) : tp_M := if σ.1 0 0 = f 7 then e_drop σ else e_add kd v x b t kn σ
def e_ok (f : Int → Int) (σ : tp_M) : Int := if σ.1 0 0 = f 7 then 0 else 1
def e_pm (f : Int → Int) (t : Int) (σ : tp_M) : tp_M := if σ.1 0 2 = 0 then σ else tp_pi (tp_pi (e_put f 1 (σ.1 0 1) (σ.1 0 2) (4 + σ.1 0 2) t (σ.1 0 11) σ) 0 1 0) 0 2 0
def e_pmk (f : Int → Int) (σ : tp_M) : Int := if σ.1 0 2 = 0 then 1 else e_ok f σ
def e_pp (f : Int → Int) (kd v x b t kn : Int) (σ : tp_M) : tp_M := if e_pmk f σ = 1 then e_put f kd v x b t kn (e_pm f t σ) else e_pm f t σ
def e_ppk (f : Int → Int) (t : Int) (σ : tp_M) : Int := if e_pmk f σ = 1 then e_ok f (e_pm f t σ) else 0
def e_cn (σ : tp_M) : Int := if σ.1 0 5 = 1 then σ.1 0 4 else 0
def e_on (a : Int) (σ : tp_M) : tp_M := tp_pi (tp_pi (tp_pi (tp_pi σ 0 5 1) 0 4 0) 0 3 a) 0 10 0
def e_trn (f : Int → Int) (a k : Int) (σ : tp_M) : tp_M :=
  if q_tr f a = 1 then (if σ.1 0 5 = 1 ∧ σ.1 0 4 < f 3 then σ else if e_ppk f k σ = 1 then e_on a (e_pp f 0 a (e_cn σ) 16 k k σ) else e_pp f 0 a (e_cn σ) 16 k k σ)
  else (if σ.1 0 5 = 1 then (if e_ppk f k σ = 1 then tp_pi (e_pp f 3 (σ.1 0 4) 0 10 k k σ) 0 5 0 else e_pp f 3 (σ.1 0 4) 0 10 k k σ) else σ)
def e_dg (b : Int) (σ : tp_M) : Int := if b / 8 = σ.1 0 3 / 8 then 1 else 2
def e_gto (f : Int → Int) (b k : Int) (σ : tp_M) : tp_M := if e_ppk f k σ = 1 then tp_pi (e_pp f 2 b (e_dg b σ) (4 + 3 * e_dg b σ) k (k + 1) σ) 0 3 b else e_pp f 2 b (e_dg b σ) (4 + 3 * e_dg b σ) k (k + 1) σ
def e_bit (y k : Int) (σ : tp_M) : tp_M := tp_pi (tp_pi (tp_pi σ 0 1 (tp_or (σ.1 0 1) (tp_ishl y (σ.1 0 2)))) 0 2 (σ.1 0 2 + 1)) 0 11 (k + 1)
def e_psh (a dp : Int) (σ : tp_M) : tp_M := if dp < σ.1 0 10 + 1 then (fun c j => if c = 1 then (if j + 1 = σ.1 0 10 then a else σ.1 1 (j + 1)) else σ.1 c j, σ.2) else tp_pi (tp_pi σ 1 (σ.1 0 10) a) 0 10 (σ.1 0 10 + 1)
def e_top (σ : tp_M) : Int := if 0 < σ.1 0 10 then σ.1 1 (σ.1 0 10 - 1) else -1
def e_pop (σ : tp_M) : tp_M := if 0 < σ.1 0 10 then tp_pi σ 0 10 (σ.1 0 10 - 1) else σ
def e_tel (f : Int → Int) (a b y dp k : Int) (σ : tp_M) : tp_M :=
  if f (9 + a) = 3 then e_psh (a + 1) dp σ else if b = -1 then σ else if f (9 + a) = 1 then e_bit y k σ
  else if f (9 + a) = 4 then (if e_top σ = b then e_bit 1 k (e_pop σ) else e_gto f b k (e_pop σ)) else if f (9 + a) = 5 then e_gto f b k σ else σ
def e_out (f : Int → Int) (k : Int) (σ : tp_M) : tp_M := if 0 < k ∧ k % f 8 = 0 ∧ 0 < σ.1 0 0 then tp_pi σ 0 0 (σ.1 0 0 - 1) else σ
def e_see (f : Int → Int) (k : Int) (σ : tp_M) : tp_M := if σ.1 0 6 = 1 ∧ σ.1 0 0 = 0 then tp_pi (e_put f 5 0 0 4 k k σ) 0 6 0 else σ
def e_s3 (f : Int → Int) (a k : Int) (σ : tp_M) : tp_M := if σ.1 0 6 = 1 then σ else e_trn f a k σ
def e_s4 (f : Int → Int) (a b y dp k : Int) (σ : tp_M) : tp_M := if σ.1 0 5 = 1 then e_tel f a b y dp k σ else σ
def e_s5 (f : Int → Int) (bt k : Int) (σ : tp_M) : tp_M := if σ.1 0 5 = 1 ∧ σ.1 0 2 = bt then e_pm f k σ else σ
def e_s6 (σ : tp_M) : tp_M := if σ.1 0 5 = 1 then tp_pi σ 0 4 (σ.1 0 4 + 1) else σ
def e_stp (f : Int → Int) (bt dp a b y k : Int) (σ : tp_M) : tp_M := e_s6 (e_s5 f bt k (e_s4 f a b y dp k (e_s3 f a k (e_see f k (e_out f k σ)))))
def e_it (f : Int → Int) (bt dp : Int) (A B Y : Int → Int) : Nat → tp_M
  | 0 => e_0
  | k + 1 => e_stp f bt dp (A k) (B k) (Y k) k (e_it f bt dp A B Y k)
def e_fin (f : Int → Int) (n : Int) (σ : tp_M) : tp_M := if σ.1 0 5 = 1 then e_pp f 4 (σ.1 0 4) 0 10 n n σ else σ
def e_all (f : Int → Int) (bt dp : Int) (A B Y : Int → Int) (n : Int) : tp_M := e_fin f n (e_it f bt dp A B Y n.toNat)
/-- what stays so: m how many may have gone out, k how many were counted at most -/
def e_J (f : Int → Int) (m k : Int) (σ : tp_M) : Prop := (0 ≤ σ.1 0 0 ∧ σ.1 0 0 ≤ f 7) ∧ (0 ≤ σ.1 0 9 ∧ σ.1 0 9 ≤ σ.1 0 0 + m) ∧ (0 ≤ σ.1 0 2 ∧ σ.1 0 2 ≤ 9) ∧ (0 ≤ σ.1 0 10 ∧ σ.1 0 10 ≤ 4) ∧ (σ.1 0 5 = 0 ∨ σ.1 0 5 = 1) ∧ (σ.1 0 6 = 0 ∨ σ.1 0 6 = 1) ∧ (σ.1 0 6 = 1 → σ.1 0 5 = 0) ∧ (0 ≤ σ.1 0 4 ∧ σ.1 0 4 ≤ k) ∧ (σ.1 0 5 = 1 → 0 ≤ σ.1 0 3 ∧ σ.1 0 3 ≤ 40)
theorem J_put {f : Int → Int} {m k kd v x b t kn : Int} {σ : tp_M} (hJ : e_J f m k σ) : e_J f m k (e_put f kd v x b t kn σ) := by
  obtain ⟨h1, h2, h3, h4, h5, h6, h7, h8, h9⟩ := id hJ
  unfold e_put
  by_cases q : σ.1 0 0 = f 7
  · rw [if_pos q]
    exact ⟨(by show 0 ≤ (σ.1 0 0) ∧ (σ.1 0 0) ≤ f 7; omega), (by show 0 ≤ (σ.1 0 9) ∧ (σ.1 0 9) ≤ (σ.1 0 0) + m; omega), (by show 0 ≤ 0 ∧ 0 ≤ 9; omega), (by show 0 ≤ (σ.1 0 10) ∧ (σ.1 0 10) ≤ 4; omega), (by show 0 = 0 ∨ 0 = 1; omega), (by show 1 = 0 ∨ 1 = 1; omega), (by show 1 = 1 → 0 = 0; omega), (by show 0 ≤ (σ.1 0 4) ∧ (σ.1 0 4) ≤ k; omega), (by show 0 = 1 → 0 ≤ (σ.1 0 3) ∧ (σ.1 0 3) ≤ 40; omega)⟩
  · rw [if_neg q]
    exact ⟨(by show 0 ≤ (σ.1 0 0) + 1 ∧ (σ.1 0 0) + 1 ≤ f 7; omega), (by show 0 ≤ (σ.1 0 9) + 1 ∧ (σ.1 0 9) + 1 ≤ (σ.1 0 0) + 1 + m; omega), (by show 0 ≤ (σ.1 0 2) ∧ (σ.1 0 2) ≤ 9; omega), (by show 0 ≤ (σ.1 0 10) ∧ (σ.1 0 10) ≤ 4; omega), (by show (σ.1 0 5) = 0 ∨ (σ.1 0 5) = 1; omega), (by show (σ.1 0 6) = 0 ∨ (σ.1 0 6) = 1; omega), (by show (σ.1 0 6) = 1 → (σ.1 0 5) = 0; omega), (by show 0 ≤ (σ.1 0 4) ∧ (σ.1 0 4) ≤ k; omega), (by show (σ.1 0 5) = 1 → 0 ≤ (σ.1 0 3) ∧ (σ.1 0 3) ≤ 40; omega)⟩
theorem e_put_y {f : Int → Int} {kd v x b t kn : Int} {σ : tp_M} (q : ¬ σ.1 0 0 = f 7) : e_put f kd v x b t kn σ = e_add kd v x b t kn σ := if_neg q
theorem e_put_n {f : Int → Int} {kd v x b t kn : Int} {σ : tp_M} (q : σ.1 0 0 = f 7) : e_put f kd v x b t kn σ = e_drop σ := if_pos q
theorem e_ok_y {f : Int → Int} {σ : tp_M} (q : ¬ σ.1 0 0 = f 7) : e_ok f σ = 1 := if_neg q
theorem e_ok_n {f : Int → Int} {σ : tp_M} (q : σ.1 0 0 = f 7) : e_ok f σ = 0 := if_pos q
theorem e_ok_b (f : Int → Int) (σ : tp_M) : e_ok f σ = 0 ∨ e_ok f σ = 1 := by unfold e_ok; split <;> omega
theorem e_ok_off {f : Int → Int} {kd v x b t kn : Int} {σ : tp_M} (h : e_ok f σ = 0) : (e_put f kd v x b t kn σ).1 0 5 = 0 ∧ (e_put f kd v x b t kn σ).1 0 2 = 0 ∧ (e_put f kd v x b t kn σ).1 0 1 = 0 := by
  have q : σ.1 0 0 = f 7 := by
    unfold e_ok at h
    by_cases z : σ.1 0 0 = f 7
    · exact z
    · rw [if_neg z] at h; omega
  rw [e_put_n q]
  exact ⟨rfl, rfl, rfl⟩
theorem e_pmk_b (f : Int → Int) (σ : tp_M) : e_pmk f σ = 0 ∨ e_pmk f σ = 1 := by
  unfold e_pmk
  split
  · omega
  · exact e_ok_b f σ
theorem e_ppk_b (f : Int → Int) (t : Int) (σ : tp_M) : e_ppk f t σ = 0 ∨ e_ppk f t σ = 1 := by
  unfold e_ppk
  split
  · exact e_ok_b f _
  · omega
theorem e_pm_0 {f : Int → Int} {t : Int} {σ : tp_M} (h : σ.1 0 2 = 0) : e_pm f t σ = σ := if_pos h
theorem e_pm_1 {f : Int → Int} {t : Int} {σ : tp_M} (h : ¬ σ.1 0 2 = 0) : e_pm f t σ = tp_pi (tp_pi (e_put f 1 (σ.1 0 1) (σ.1 0 2) (4 + σ.1 0 2) t (σ.1 0 11) σ) 0 1 0) 0 2 0 := if_neg h
theorem e_pmk_0 {f : Int → Int} {σ : tp_M} (h : σ.1 0 2 = 0) : e_pmk f σ = 1 := if_pos h
theorem e_pmk_1 {f : Int → Int} {σ : tp_M} (h : ¬ σ.1 0 2 = 0) : e_pmk f σ = e_ok f σ := if_neg h
theorem e_pm_mm (f : Int → Int) (t : Int) (σ : tp_M) : (e_pm f t σ).1 0 2 = 0 := by
  by_cases h : σ.1 0 2 = 0
  · rw [e_pm_0 h]; exact h
  · rw [e_pm_1 h]; rfl
theorem e_pm_off {f : Int → Int} {t : Int} {σ : tp_M} (h : e_pmk f σ = 0) : (e_pm f t σ).1 0 5 = 0 := by
  by_cases q : σ.1 0 2 = 0
  · rw [e_pmk_0 q] at h; omega
  · rw [e_pmk_1 q] at h
    rw [e_pm_1 q]
    exact (e_ok_off h).1
theorem J_pm {f : Int → Int} {m k t : Int} {σ : tp_M} (hJ : e_J f m k σ) : e_J f m k (e_pm f t σ) := by
  by_cases q : σ.1 0 2 = 0
  · rw [e_pm_0 q]; exact hJ
  · rw [e_pm_1 q]
    obtain ⟨h1, h2, h3, h4, h5, h6, h7, h8, h9⟩ := J_put (kd := 1) (v := σ.1 0 1) (x := σ.1 0 2) (b := 4 + σ.1 0 2) (t := t) (kn := σ.1 0 11) hJ
    exact ⟨h1, h2, ⟨Int.le_refl 0, by show (0 : Int) ≤ 9; decide⟩, h4, h5, h6, h7, h8, h9⟩
theorem J_pp {f : Int → Int} {m k kd v x b t kn : Int} {σ : tp_M} (hJ : e_J f m k σ) : e_J f m k (e_pp f kd v x b t kn σ) := by
  unfold e_pp
  split
  · exact J_put (J_pm hJ)
  · exact J_pm hJ
/-- what came in without a drop changes neither the mode nor what is counted -/
theorem e_put_kp {f : Int → Int} {kd v x b t kn : Int} {σ : tp_M} (h : e_ok f σ = 1) : (e_put f kd v x b t kn σ).1 0 5 = σ.1 0 5 ∧ (e_put f kd v x b t kn σ).1 0 6 = σ.1 0 6 ∧ (e_put f kd v x b t kn σ).1 0 4 = σ.1 0 4 ∧ (e_put f kd v x b t kn σ).1 0 3 = σ.1 0 3 ∧ (e_put f kd v x b t kn σ).1 0 10 = σ.1 0 10 ∧ (e_put f kd v x b t kn σ).1 1 = σ.1 1 := by
  have q : ¬ σ.1 0 0 = f 7 := fun z => by rw [e_ok_n z] at h; omega
  rw [e_put_y q]
  exact ⟨rfl, rfl, rfl, rfl, rfl, by unfold e_add; rw [tp_pi_ne (by omega), tp_pi_ne (by omega), tp_pi_ne (by omega), tp_pi_ne (by omega), tp_pi_ne (by omega), tp_pi_ne (by omega), tp_pi_ne (by omega), tp_pi_ne (by omega), tp_pi_ne (by omega), tp_pi_ne (by omega)]⟩
theorem e_put_l {f : Int → Int} {kd v x b t kn : Int} {σ : tp_M} : (e_put f kd v x b t kn σ).1 0 3 = σ.1 0 3 ∧ (e_put f kd v x b t kn σ).1 0 4 = σ.1 0 4 := by
  by_cases q : σ.1 0 0 = f 7
  · rw [e_put_n q]; exact ⟨rfl, rfl⟩
  · rw [e_put_y q]; exact ⟨rfl, rfl⟩
theorem e_pm_l {f : Int → Int} {t : Int} {σ : tp_M} : (e_pm f t σ).1 0 3 = σ.1 0 3 ∧ (e_pm f t σ).1 0 4 = σ.1 0 4 := by
  by_cases q : σ.1 0 2 = 0
  · rw [e_pm_0 q]; exact ⟨rfl, rfl⟩
  · rw [e_pm_1 q]; exact ⟨e_put_l.1, e_put_l.2⟩
theorem e_pm_kp {f : Int → Int} {t : Int} {σ : tp_M} (h : e_pmk f σ = 1) : (e_pm f t σ).1 0 5 = σ.1 0 5 ∧ (e_pm f t σ).1 0 6 = σ.1 0 6 ∧ (e_pm f t σ).1 0 4 = σ.1 0 4 ∧ (e_pm f t σ).1 0 3 = σ.1 0 3 ∧ (e_pm f t σ).1 0 10 = σ.1 0 10 := by
  by_cases q : σ.1 0 2 = 0
  · rw [e_pm_0 q]; exact ⟨rfl, rfl, rfl, rfl, rfl⟩
  · rw [e_pmk_1 q] at h
    rw [e_pm_1 q]
    have e := e_put_kp (kd := 1) (v := σ.1 0 1) (x := σ.1 0 2) (b := 4 + σ.1 0 2) (t := t) (kn := σ.1 0 11) h
    exact ⟨e.1, e.2.1, e.2.2.1, e.2.2.2.1, e.2.2.2.2.1⟩
theorem e_ppk_y {f : Int → Int} {t : Int} {σ : tp_M} (h : e_ppk f t σ = 1) : e_pmk f σ = 1 ∧ e_ok f (e_pm f t σ) = 1 := by
  unfold e_ppk at h
  by_cases q : e_pmk f σ = 1
  · rw [if_pos q] at h; exact ⟨q, h⟩
  · rw [if_neg q] at h; omega
theorem e_pp_y {f : Int → Int} {kd v x b t kn : Int} {σ : tp_M} (h : e_pmk f σ = 1) : e_pp f kd v x b t kn σ = e_put f kd v x b t kn (e_pm f t σ) := if_pos h
theorem e_pp_n {f : Int → Int} {kd v x b t kn : Int} {σ : tp_M} (h : e_pmk f σ = 0) : e_pp f kd v x b t kn σ = e_pm f t σ := if_neg (by omega)
theorem e_ppk_1 {f : Int → Int} {t : Int} {σ : tp_M} (h : e_pmk f σ = 1) : e_ppk f t σ = e_ok f (e_pm f t σ) := if_pos h
theorem e_ppk_0 {f : Int → Int} {t : Int} {σ : tp_M} (h : e_pmk f σ = 0) : e_ppk f t σ = 0 := if_neg (by omega)
theorem e_pp_off {f : Int → Int} {kd v x b t kn : Int} {σ : tp_M} (h : e_ppk f t σ = 0) : (e_pp f kd v x b t kn σ).1 0 5 = 0 := by
  rcases e_pmk_b f σ with q | q
  · rw [e_pp_n q]; exact e_pm_off q
  · rw [e_ppk_1 q] at h
    rw [e_pp_y q]
    exact (e_ok_off h).1
theorem e_put_mm {f : Int → Int} {kd v x b t kn : Int} {σ : tp_M} (h : σ.1 0 2 = 0) : (e_put f kd v x b t kn σ).1 0 2 = 0 := by
  by_cases q : σ.1 0 0 = f 7
  · rw [e_put_n q]; rfl
  · rw [e_put_y q]; exact h
theorem e_pp_mm {f : Int → Int} {kd v x b t kn : Int} {σ : tp_M} : (e_pp f kd v x b t kn σ).1 0 2 = 0 := by
  rcases e_pmk_b f σ with q | q
  · rw [e_pp_n q]; exact e_pm_mm f t σ
  · rw [e_pp_y q]; exact e_put_mm (e_pm_mm f t σ)
