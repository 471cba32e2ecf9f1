/-! part by part, over the machine's numbers -/
def iZ (z : Int) : Int32 := Int32.ofInt z
theorem iZ_iN (n : Nat) : iN n = iZ n := (Int32.ofInt_eq_ofNat).symm
theorem iZ_add (a b : Int) : iZ a + iZ b = iZ (a + b) := (Int32.ofInt_add a b).symm
theorem iZ_sub (a b : Int) : iZ a - iZ b = iZ (a - b) := (Int32.ofInt_sub a b).symm
theorem iZ_toInt {a : Int} (h1 : -1000000 ≤ a) (h2 : a ≤ 1000000) : (iZ a).toInt = a := Int32.toInt_ofInt_of_le (by omega) (by omega)
theorem iZ_lt {a b : Int} (h1 : -1000000 ≤ a) (h2 : a ≤ 1000000) (h3 : -1000000 ≤ b) (h4 : b ≤ 1000000) : iZ a < iZ b ↔ a < b := by
  rw [Int32.lt_iff_toInt_lt, iZ_toInt h1 h2, iZ_toInt h3 h4]
theorem iZ_inj {a b : Int} (h1 : -1000000 ≤ a) (h2 : a ≤ 1000000) (h3 : -1000000 ≤ b) (h4 : b ≤ 1000000) : iZ a = iZ b ↔ a = b := by
  refine ⟨fun h => ?_, fun h => by rw [h]⟩
  have := congrArg Int32.toInt h
  rwa [iZ_toInt h1 h2, iZ_toInt h3 h4] at this
theorem Lq_rng {A : Ab} (G : Gd A) {k d : Nat} (hk : d + k ≤ 6) (fr : Nat → Bool) : -6 ≤ Lq (PA A) k d fr ∧ Lq (PA A) k d fr ≤ 4200 := by
  obtain ⟨h1, h2⟩ := PT_best (PA A) k d fr
  have hl := (En_len (PA A) k d fr _ h1.mem).1
  have h3 := lk_le (PA A) (fun d _ => (PA_w1 G d).2) (PT (PA A) k d fr) d (by omega)
  have h4 := hm_le (PA A) (PT (PA A) k d fr) d
  rw [← h2, cst_lk]
  omega
/-- the row of least costs of the DIAGRAMS from d on -/
def Tab (A : Ab) (σ : Wd) (d : Nat) : Prop := ∀ f, f < 2 ^ nU A → σ.1 18 0 (64 * d + f) = iZ (Lq (PA A) (nD A - d) d f.testBit)
theorem at18 {σ : Wd} {i : Nat} (hi : i < 448) : f_X3_at_18 σ (iN i) (iN 0) = some (.inl (σ.1 18 0 i), σ) := by
  simp (disch := omega) only [gd_t, gd_T, bx_some, bx_thr, bd_def, nx_in, ↓nO_eq, l0, l1, l2, l3, l4, l5, l6, l7, l8, l30, l50, l64, l100, l200, l448, l1200, iN_add, iN_lt, iN_le, iN_inj, iN_clamp, iN_inb, iN_nO, nO_iN, nO_lt, iN_ltm, iN_lem, nO_le, iN_pred, if_pos, if_neg, ↓reduceIte, or_true, true_or, and_true, true_and, ne_eq, not_true_eq_false, not_false_eq_true, false_or, or_false, and_false, false_and, f_X3_at_18]
theorem put18 {σ : Wd} {i : Nat} (hi : i < 448) (v : Int32) : f_X3_put_18 σ (iN i) v = some (.inl (), wr σ 18 0 i v) := by
  simp (disch := omega) only [gd_t, gd_T, bx_some, bx_thr, bd_def, nx_in, ↓nO_eq, l0, l1, l2, l3, l4, l5, l6, l7, l8, l30, l50, l64, l100, l200, l448, l1200, iN_add, iN_lt, iN_le, iN_inj, iN_clamp, iN_inb, iN_nO, nO_iN, nO_lt, iN_ltm, iN_lem, nO_le, iN_pred, if_pos, if_neg, ↓reduceIte, or_true, true_or, and_true, true_and, ne_eq, not_true_eq_false, not_false_eq_true, false_or, or_false, and_false, false_and, f_X3_put_18]
theorem x3_has {σ : Wd} {t u : Nat} (ht : t < 64) (hu : u < 6) : f_X3_has σ (iN t) (iN u) = some (.inl (bI (t.testBit u)), σ) := by
  have h := bit_has u hu t ht
  unfold f_X3_has
  by_cases hb : t.testBit u = true
  · rw [if_pos (h.mpr hb), hb]; rfl
  · rw [if_neg (fun z => hb (h.mp z)), show t.testBit u = false from by simpa using hb]; rfl
theorem x3_wo {σ : Wd} {f u : Nat} (hf : f < 64) (hu : u < 6) : f_X3_without σ (iN f) (iN u) = some (.inl (iN (clr f u)), σ) := by
  unfold f_X3_without
  rw [if_neg (show ¬ iN u = -1 from by rw [show (-1 : Int32) = nO from rfl, iN_nO (by omega)]; exact id), (bit_clr u hu f hf).1]
theorem x3_wo0 {σ : Wd} {f : Int32} : f_X3_without σ f nO = some (.inl f, σ) := by
  unfold f_X3_without
  rw [if_pos (show nO = -1 from rfl)]
theorem x3_at13 {σ : Wd} {d : Nat} (hd : d < 6) : f_X3_at_13 σ (iN d) (iN 0) = some (.inl (σ.1 13 0 d), σ) := by
  simp (disch := omega) only [gd_t, gd_T, bx_some, bx_thr, bd_def, nx_in, ↓nO_eq, l0, l1, l2, l3, l4, l5, l6, l7, l8, l30, l50, l64, l100, l200, l448, l1200, iN_add, iN_lt, iN_le, iN_inj, iN_clamp, iN_inb, iN_nO, nO_iN, nO_lt, iN_ltm, iN_lem, nO_le, iN_pred, if_pos, if_neg, ↓reduceIte, or_true, true_or, and_true, true_and, ne_eq, not_true_eq_false, not_false_eq_true, false_or, or_false, and_false, false_and, f_X3_at_13]
theorem x3_at14 {σ : Wd} {d : Nat} (hd : d < 6) : f_X3_at_14 σ (iN d) (iN 0) = some (.inl (σ.1 14 0 d), σ) := by
  simp (disch := omega) only [gd_t, gd_T, bx_some, bx_thr, bd_def, nx_in, ↓nO_eq, l0, l1, l2, l3, l4, l5, l6, l7, l8, l30, l50, l64, l100, l200, l448, l1200, iN_add, iN_lt, iN_le, iN_inj, iN_clamp, iN_inb, iN_nO, nO_iN, nO_lt, iN_ltm, iN_lem, nO_le, iN_pred, if_pos, if_neg, ↓reduceIte, or_true, true_or, and_true, true_and, ne_eq, not_true_eq_false, not_false_eq_true, false_or, or_false, and_false, false_and, f_X3_at_14]
theorem x3_at15 {σ : Wd} {d : Nat} (hd : d < 6) : f_X3_at_15 σ (iN d) (iN 0) = some (.inl (σ.1 15 0 d), σ) := by
  simp (disch := omega) only [gd_t, gd_T, bx_some, bx_thr, bd_def, nx_in, ↓nO_eq, l0, l1, l2, l3, l4, l5, l6, l7, l8, l30, l50, l64, l100, l200, l448, l1200, iN_add, iN_lt, iN_le, iN_inj, iN_clamp, iN_inb, iN_nO, nO_iN, nO_lt, iN_ltm, iN_lem, nO_le, iN_pred, if_pos, if_neg, ↓reduceIte, or_true, true_or, and_true, true_and, ne_eq, not_true_eq_false, not_false_eq_true, false_or, or_false, and_false, false_and, f_X3_at_15]
theorem cost_u {A : Ab} {σ : Wd} (M : Mrn A σ) (G : Gd A) {d : Nat} (hd : d < nD A) (hT : Tab A σ (d + 1)) {f u : Nat} (hf : f < 2 ^ nU A) (hu : u < nU A) : f_X3_costWith σ (iN d) (iN u) (iN f) = some (.inl (iZ (hc (PA A) d u + Lq (PA A) (nD A - (d + 1)) (d + 1) (rm f.testBit u))), σ) := by
  have g6 := G.1
  have g7 := G.2.1
  have h64 := (bit_sets (nU A) (by omega)).2.2.1
  obtain ⟨t, h, ht, hh, e14, e15, eb⟩ := (M.2.2 d hd).2
  have hcl := (bit_clr u (by omega) f (by omega)).2.1
  have hv := hT (clr f u) (by omega)
  rw [clr_bits (by omega) (by omega)] at hv
  have hi : (d + 1) * 64 + clr f u = 64 * (d + 1) + clr f u := by omega
  have hr := Lq_rng G (k := nD A - (d + 1)) (d := d + 1) (by omega) (rm f.testBit u)
  have hb := (eb u hu).2
  have hhom : (PA A).2.2.2 d u = homA A d u := rfl
  unfold hc
  rw [hhom, ← hb]
  have h1 := x3_has (σ := σ) hh (by omega : u < 6)
  generalize h.testBit u = b at *
  generalize Lq (PA A) (nD A - (d + 1)) (d + 1) (rm f.testBit u) = L at *
  cases b
  · rw [if_neg (by decide), Int.zero_add]
    simp (disch := omega) only [gd_t, gd_T, bx_some, bx_thr, bd_def, nx_in, ↓nO_eq, l0, l1, l2, l3, l4, l5, l6, l7, l8, l30, l50, l64, l100, l200, l448, l1200, iN_add, iN_lt, iN_le, iN_inj, iN_clamp, iN_inb, iN_nO, nO_iN, nO_lt, iN_ltm, iN_lem, nO_le, iN_pred, if_pos, if_neg, ↓reduceIte, or_true, true_or, and_true, true_and, ne_eq, not_true_eq_false, not_false_eq_true, false_or, or_false, and_false, false_and, f_X3_costWith, x3_wo (σ := σ) (by omega : f < 64) (by omega : u < 6), iN_mul, hi, at18 (σ := σ), hv, x3_at15 (σ := σ), e15, h1, bI_f]
  · rw [if_pos rfl, show (-1 : Int) + L = L - 1 from by omega, ← iZ_sub, show iZ 1 = iN 1 from rfl]
    simp (disch := omega) only [gd_t, gd_T, bx_some, bx_thr, bd_def, nx_in, ↓nO_eq, l0, l1, l2, l3, l4, l5, l6, l7, l8, l30, l50, l64, l100, l200, l448, l1200, iN_add, iN_lt, iN_le, iN_inj, iN_clamp, iN_inb, iN_nO, nO_iN, nO_lt, iN_ltm, iN_lem, nO_le, iN_pred, if_pos, if_neg, ↓reduceIte, or_true, true_or, and_true, true_and, ne_eq, not_true_eq_false, not_false_eq_true, false_or, or_false, and_false, false_and, f_X3_costWith, x3_wo (σ := σ) (by omega : f < 64) (by omega : u < 6), iN_mul, hi, at18 (σ := σ), hv, x3_at15 (σ := σ), e15, h1, bI_t]
theorem cost_0 {A : Ab} {σ : Wd} (M : Mrn A σ) (G : Gd A) {d : Nat} (hd : d < nD A) (hT : Tab A σ (d + 1)) {f : Nat} (hf : f < 2 ^ nU A) : f_X3_costWith σ (iN d) nO (iN f) = some (.inl (iZ (7 * ((PA A).2.2.1 d : Int) + Lq (PA A) (nD A - (d + 1)) (d + 1) f.testBit)), σ) := by
  have g6 := G.1
  have g7 := G.2.1
  have h64 := (bit_sets (nU A) (by omega)).2.2.1
  have e13 := (M.2.2 d hd).1
  have hw := (PA_w G hd).1
  have hv := hT f hf
  have hi : (d + 1) * 64 + f = 64 * (d + 1) + f := by omega
  have e : iZ (7 * ((PA A).2.2.1 d : Int) + Lq (PA A) (nD A - (d + 1)) (d + 1) f.testBit) = iZ (Lq (PA A) (nD A - (d + 1)) (d + 1) f.testBit) + iN ((PA A).2.2.1 d * 7) := by
    rw [iZ_iN, iZ_add]
    congr 1
    omega
  rw [e]
  generalize Lq (PA A) (nD A - (d + 1)) (d + 1) f.testBit = L at *
  simp (disch := omega) only [gd_t, gd_T, bx_some, bx_thr, bd_def, nx_in, ↓nO_eq, l0, l1, l2, l3, l4, l5, l6, l7, l8, l30, l50, l64, l100, l200, l448, l1200, iN_add, iN_lt, iN_le, iN_inj, iN_clamp, iN_inb, iN_nO, nO_iN, nO_lt, iN_ltm, iN_lem, nO_le, iN_pred, if_pos, if_neg, ↓reduceIte, or_true, true_or, and_true, true_and, ne_eq, not_true_eq_false, not_false_eq_true, false_or, or_false, and_false, false_and, f_X3_costWith, x3_wo0, iN_mul, hi, at18 (σ := σ), hv, x3_at13 (σ := σ), e13, hw]
theorem least_L {A : Ab} {σ : Wd} (M : Mrn A σ) (G : Gd A) {d : Nat} (hd : d < nD A) (hT : Tab A σ (d + 1)) {f t : Nat} (hf : f < 2 ^ nU A) (ht : t < 64) (htb : ∀ u, u < nU A → t.testBit u = mayA A d u) : ∀ (k u n : Nat) (acc : Int), nU A - u = k → k < n → u ≤ nU A → -1000 ≤ acc → acc ≤ 10000 → l_X3_leastCostFrom_24 n σ (iN u) (iN (f &&& t)) (iZ acc) (iN d) (iN f) = some (.inl (iZ (LCl (fun u => f.testBit u && mayA A d u) (fun u => hc (PA A) d u + Lq (PA A) (nD A - (d + 1)) (d + 1) (rm f.testBit u)) acc u k)), σ)
  | 0, u, n, acc, hk, hn, hu, ha1, ha2 => by
    obtain ⟨m, rfl⟩ : ∃ m, n = m + 1 := ⟨n - 1, by omega⟩
    have g6 := G.1
    have huq : u = nU A := by omega
    subst huq
    have h6 := M.1
    have e : LCl (fun u => f.testBit u && mayA A d u) (fun u => hc (PA A) d u + Lq (PA A) (nD A - (d + 1)) (d + 1) (rm f.testBit u)) acc (nU A) 0 = acc := rfl
    rw [e]
    simp (disch := omega) only [gd_t, gd_T, bx_some, bx_thr, bd_def, nx_in, ↓nO_eq, l0, l1, l2, l3, l4, l5, l6, l7, l8, l30, l50, l64, l100, l200, l448, l1200, iN_add, iN_lt, iN_le, iN_inj, iN_clamp, iN_inb, iN_nO, nO_iN, nO_lt, iN_ltm, iN_lem, nO_le, iN_pred, if_pos, if_neg, ↓reduceIte, or_true, true_or, and_true, true_and, ne_eq, not_true_eq_false, not_false_eq_true, false_or, or_false, and_false, false_and, l_X3_leastCostFrom_24, h6]
  | k + 1, u, n, acc, hk, hn, hu, ha1, ha2 => by
    obtain ⟨m, rfl⟩ : ∃ m, n = m + 1 := ⟨n - 1, by omega⟩
    have g6 := G.1
    have g7 := G.2.1
    have huu : u < nU A := by omega
    have h6 := M.1
    have h64 := (bit_sets (nU A) (by omega)).2.2.1
    have hcu := cost_u M G hd hT hf huu
    have hr := Lq_rng G (k := nD A - (d + 1)) (d := d + 1) (by omega) (rm f.testBit u)
    have hh := x3_has (σ := σ) (and_lt (t := t) (by omega : f < 64)) (by omega : u < 6)
    rw [Nat.testBit_and, htb u huu] at hh
    have hcr : -1 ≤ hc (PA A) d u ∧ hc (PA A) d u ≤ 0 := by
      unfold hc
      split <;> omega
    have e : LCl (fun u => f.testBit u && mayA A d u) (fun u => hc (PA A) d u + Lq (PA A) (nD A - (d + 1)) (d + 1) (rm f.testBit u)) acc u (k + 1) = LCl (fun u => f.testBit u && mayA A d u) (fun u => hc (PA A) d u + Lq (PA A) (nD A - (d + 1)) (d + 1) (rm f.testBit u)) (if (f.testBit u && mayA A d u) then (if hc (PA A) d u + Lq (PA A) (nD A - (d + 1)) (d + 1) (rm f.testBit u) < acc then hc (PA A) d u + Lq (PA A) (nD A - (d + 1)) (d + 1) (rm f.testBit u) else acc) else acc) (u + 1) k := rfl
    rw [e]
    have ih := fun acc h1 h2 => least_L M G hd hT hf ht htb k (u + 1) m acc (by omega) (by omega) (by omega) h1 h2
    by_cases hb : (f.testBit u && mayA A d u) = true
    · rw [hb] at hh
      rw [if_pos hb]
      generalize hval : hc (PA A) d u + Lq (PA A) (nD A - (d + 1)) (d + 1) (rm f.testBit u) = v at *
      by_cases hlt : v < acc
      · have hlt2 : iZ v < iZ acc := (iZ_lt (by omega) (by omega) (by omega) (by omega)).mpr hlt
        rw [if_pos hlt, ← ih v (by omega) (by omega)]
        simp (disch := omega) only [gd_t, gd_T, bx_some, bx_thr, bd_def, nx_in, ↓nO_eq, l0, l1, l2, l3, l4, l5, l6, l7, l8, l30, l50, l64, l100, l200, l448, l1200, iN_add, iN_lt, iN_le, iN_inj, iN_clamp, iN_inb, iN_nO, nO_iN, nO_lt, iN_ltm, iN_lem, nO_le, iN_pred, if_pos, if_neg, ↓reduceIte, or_true, true_or, and_true, true_and, ne_eq, not_true_eq_false, not_false_eq_true, false_or, or_false, and_false, false_and, l_X3_leastCostFrom_24, h6, hh, bI_t, hcu, hlt2]
      · have hlt2 : ¬ iZ v < iZ acc := fun z => hlt ((iZ_lt (by omega) (by omega) (by omega) (by omega)).mp z)
        rw [if_neg hlt, ← ih acc ha1 ha2]
        simp (disch := omega) only [gd_t, gd_T, bx_some, bx_thr, bd_def, nx_in, ↓nO_eq, l0, l1, l2, l3, l4, l5, l6, l7, l8, l30, l50, l64, l100, l200, l448, l1200, iN_add, iN_lt, iN_le, iN_inj, iN_clamp, iN_inb, iN_nO, nO_iN, nO_lt, iN_ltm, iN_lem, nO_le, iN_pred, if_pos, if_neg, ↓reduceIte, or_true, true_or, and_true, true_and, ne_eq, not_true_eq_false, not_false_eq_true, false_or, or_false, and_false, false_and, l_X3_leastCostFrom_24, h6, hh, bI_t, hcu, hlt2]
    · have hb2 : (f.testBit u && mayA A d u) = false := by simpa using hb
      rw [hb2] at hh
      rw [if_neg hb, ← ih acc ha1 ha2]
      simp (disch := omega) only [gd_t, gd_T, bx_some, bx_thr, bd_def, nx_in, ↓nO_eq, l0, l1, l2, l3, l4, l5, l6, l7, l8, l30, l50, l64, l100, l200, l448, l1200, iN_add, iN_lt, iN_le, iN_inj, iN_clamp, iN_inb, iN_nO, nO_iN, nO_lt, iN_ltm, iN_lem, nO_le, iN_pred, if_pos, if_neg, ↓reduceIte, or_true, true_or, and_true, true_and, ne_eq, not_true_eq_false, not_false_eq_true, false_or, or_false, and_false, false_and, l_X3_leastCostFrom_24, h6, hh, bI_f]
theorem least_ok {A : Ab} {σ : Wd} (M : Mrn A σ) (G : Gd A) {d : Nat} (hd : d < nD A) (hT : Tab A σ (d + 1)) {f : Nat} (hf : f < 2 ^ nU A) : f_X3_leastCostFrom σ (iN d) (iN f) = some (.inl (iZ (Lq (PA A) (nD A - d) d f.testBit)), σ) := by
  have g6 := G.1
  have g7 := G.2.1
  have h64 := (bit_sets (nU A) (by omega)).2.2.1
  obtain ⟨t, h, ht, hh, e14, e15, eb⟩ := (M.2.2 d hd).2
  have h0 := cost_0 M G hd hT hf
  have hr := Lq_rng G (k := nD A - (d + 1)) (d := d + 1) (by omega) f.testBit
  have hw := (PA_w G hd).2
  have hl := least_L M G hd hT hf ht (fun u hu => (eb u hu).1) (nU A) 0 FU (7 * ((PA A).2.2.1 d : Int) + Lq (PA A) (nD A - (d + 1)) (d + 1) f.testBit) rfl (by unfold FU; omega) (Nat.zero_le _) (by omega) (by omega)
  have e : nD A - d = (nD A - (d + 1)) + 1 := by omega
  have ea := bit_and f (by omega) t ht
  rw [e]
  show _ = some (Sum.inl (iZ (LCl (fun u => f.testBit u && mayA A d u) (fun u => hc (PA A) d u + Lq (PA A) (nD A - (d + 1)) (d + 1) (rm f.testBit u)) (7 * ((PA A).2.2.1 d : Int) + Lq (PA A) (nD A - (d + 1)) (d + 1) f.testBit) 0 (nU A))), σ)
  rw [← hl]
  simp (disch := omega) only [gd_t, gd_T, bx_some, bx_thr, bd_def, nx_in, ↓nO_eq, l0, l1, l2, l3, l4, l5, l6, l7, l8, l30, l50, l64, l100, l200, l448, l1200, iN_add, iN_lt, iN_le, iN_inj, iN_clamp, iN_inb, iN_nO, nO_iN, nO_lt, iN_ltm, iN_lem, nO_le, iN_pred, if_pos, if_neg, ↓reduceIte, or_true, true_or, and_true, true_and, ne_eq, not_true_eq_false, not_false_eq_true, false_or, or_false, and_false, false_and, f_X3_leastCostFrom, h0, x3_at14 (σ := σ), e14, ea]
theorem Mrn.fr {A : Ab} {σ τ : Wd} (h : Mrn A σ) (h1 : ∀ t, 12 ≤ t → t ≤ 15 → τ.1 t = σ.1 t) : Mrn A τ := by
  unfold Mrn Mrow at h ⊢
  rw [h1 12 (by decide) (by decide), h1 13 (by decide) (by decide), h1 14 (by decide) (by decide), h1 15 (by decide) (by decide)]
  exact h
def F18 (σ σ' : Wd) : Prop := σ'.2 = σ.2 ∧ ∀ t, ¬ (16 ≤ t ∧ t ≤ 18) → σ'.1 t = σ.1 t
theorem F18.rf (σ : Wd) : F18 σ σ := ⟨rfl, fun _ _ => rfl⟩
theorem F18.tr {a b c : Wd} (h : F18 a b) (h2 : F18 b c) : F18 a c := ⟨h2.1.trans h.1, fun t x => (h2.2 t x).trans (h.2 t x)⟩
theorem F18.wr {σ τ : Wd} (h : F18 σ τ) {t i k : Nat} {v : Int32} (ht : 16 ≤ t ∧ t ≤ 18) : F18 σ (wr τ t i k v) := by
  refine ⟨h.1, fun t' x => ?_⟩
  rw [← h.2 t' x]
  funext i' k'
  rw [wr_rd, if_neg (by omega)]
theorem F18.fm {σ τ : Wd} (h : F18 σ τ) : Fm σ τ := ⟨h.1, fun t ht => h.2 t (by omega)⟩
theorem Mrn.f18 {A : Ab} {σ τ : Wd} (h : Mrn A σ) (h1 : F18 σ τ) : Mrn A τ := h.fr (fun t a b => h1.2 t (by omega))
theorem Tab_wr {A : Ab} {σ : Wd} {e d f : Nat} {v : Int32} (h : Tab A σ e) (g6 : nU A ≤ 6) (hf : f < 64) (hne : e ≠ d) : Tab A (wr σ 18 0 (64 * d + f) v) e := fun x hx => by
  have h64 := (bit_sets (nU A) (by omega)).2.2.1
  rw [wr_rd, if_neg (by omega)]
  exact h x hx
theorem fill_50 {A : Ab} (G : Gd A) {d : Nat} (hd : d < nD A) (k44 : Wd → Int32 → Int32 → Option ((Unit ⊕ String) × Wd)) : ∀ (k f n : Nat) (σ : Wd), 2 ^ nU A - f = k → k < n → f ≤ 2 ^ nU A → Mrn A σ → (∀ e, d < e → e ≤ nD A → Tab A σ e) → (∀ x, x < f → σ.1 18 0 (64 * d + x) = iZ (Lq (PA A) (nD A - d) d x.testBit)) → ∃ σ', l_X3_fillLeastCosts_50 k44 n σ (iN f) (iN d) (iN (2 ^ nU A)) = k44 σ' (pr d) (iN (2 ^ nU A)) ∧ F18 σ σ' ∧ ∀ e, d ≤ e → e ≤ nD A → Tab A σ' e
  | 0, f, n, σ, hk, hn, hf, M, hT, hx => by
    obtain ⟨m, rfl⟩ : ∃ m, n = m + 1 := ⟨n - 1, by omega⟩
    have g6 := G.1
    have g7 := G.2.1
    have h64 := (bit_sets (nU A) (by omega)).2.2.1
    have hfq : f = 2 ^ nU A := by omega
    subst hfq
    have hp : iN d + nO = pr d := pr_add d
    refine ⟨σ, ?_, F18.rf σ, fun e h1 h2 => ?_⟩
    · simp (disch := omega) only [gd_t, gd_T, bx_some, bx_thr, bd_def, nx_in, ↓nO_eq, l0, l1, l2, l3, l4, l5, l6, l7, l8, l30, l50, l64, l100, l200, l448, l1200, iN_add, iN_lt, iN_le, iN_inj, iN_clamp, iN_inb, iN_nO, nO_iN, nO_lt, iN_ltm, iN_lem, nO_le, iN_pred, if_pos, if_neg, ↓reduceIte, or_true, true_or, and_true, true_and, ne_eq, not_true_eq_false, not_false_eq_true, false_or, or_false, and_false, false_and, l_X3_fillLeastCosts_50, hp]
    · by_cases he : e = d
      · subst he; exact hx
      · exact hT e (by omega) h2
  | k + 1, f, n, σ, hk, hn, hf, M, hT, hx => by
    obtain ⟨m, rfl⟩ : ∃ m, n = m + 1 := ⟨n - 1, by omega⟩
    have g6 := G.1
    have g7 := G.2.1
    have h64 := (bit_sets (nU A) (by omega)).2.2.1
    have hl := least_ok M G hd (hT (d + 1) (by omega) (by omega)) (f := f) (by omega)
    have hp := put18 (σ := σ) (i := 64 * d + f) (by omega) (iZ (Lq (PA A) (nD A - d) d f.testBit))
    have hi : d * 64 + f = 64 * d + f := by omega
    have hF : F18 σ (wr σ 18 0 (64 * d + f) (iZ (Lq (PA A) (nD A - d) d f.testBit))) := (F18.rf σ).wr (by decide)
    obtain ⟨σ', q1, q2, q3⟩ := fill_50 G hd k44 k (f + 1) m (wr σ 18 0 (64 * d + f) (iZ (Lq (PA A) (nD A - d) d f.testBit))) (by omega) (by omega) (by omega) (M.f18 hF) (fun e h1 h2 => Tab_wr (hT e h1 h2) g6 (by omega) (by omega)) (fun x hxx => by
      rw [wr_rd]
      by_cases h : x = f
      · rw [if_pos ⟨rfl, rfl, by omega⟩, h]
      · rw [if_neg (by omega)]
        exact hx x (by omega))
    refine ⟨σ', ?_, hF.tr q2, q3⟩
    rw [← q1]
    simp (disch := omega) only [gd_t, gd_T, bx_some, bx_thr, bd_def, nx_in, ↓nO_eq, l0, l1, l2, l3, l4, l5, l6, l7, l8, l30, l50, l64, l100, l200, l448, l1200, iN_add, iN_lt, iN_le, iN_inj, iN_clamp, iN_inb, iN_nO, nO_iN, nO_lt, iN_ltm, iN_lem, nO_le, iN_pred, if_pos, if_neg, ↓reduceIte, or_true, true_or, and_true, true_and, ne_eq, not_true_eq_false, not_false_eq_true, false_or, or_false, and_false, false_and, l_X3_fillLeastCosts_50, hl, iN_mul, hi, hp]
theorem fill_44 {A : Ab} (G : Gd A) : ∀ (d n : Nat) (σ : Wd), d < n → d ≤ nD A → Mrn A σ → (∀ e, d ≤ e → e ≤ nD A → Tab A σ e) → ∃ σ', l_X3_fillLeastCosts_44 n σ (pr d) (iN (2 ^ nU A)) = some (.inl (), σ') ∧ F18 σ σ' ∧ ∀ e, e ≤ nD A → Tab A σ' e
  | 0, n, σ, hn, hd, M, hT => by
    obtain ⟨m, rfl⟩ : ∃ m, n = m + 1 := ⟨n - 1, by omega⟩
    refine ⟨σ, ?_, F18.rf σ, fun e he => hT e (Nat.zero_le _) he⟩
    unfold l_X3_fillLeastCosts_44 pr
    rw [if_pos (by decide)]
  | d + 1, n, σ, hn, hd, M, hT => by
    obtain ⟨m, rfl⟩ : ∃ m, n = m + 1 := ⟨n - 1, by omega⟩
    have g6 := G.1
    have g7 := G.2.1
    have h64 := (bit_sets (nU A) (by omega)).2.2.1
    obtain ⟨σ1, q1, q2, q3⟩ := fill_50 G (d := d) (by omega) (l_X3_fillLeastCosts_44 m) (2 ^ nU A) 0 FU σ rfl (by unfold FU; omega) (Nat.zero_le _) M (fun e h1 h2 => hT e h1 h2) (fun x hx => absurd hx (Nat.not_lt_zero _))
    obtain ⟨σ2, z1, z2, z3⟩ := fill_44 G d m σ1 (by omega) (by omega) (M.f18 q2) q3
    refine ⟨σ2, ?_, q2.tr z2, z3⟩
    rw [← z1, ← q1]
    have hpr : pr (d + 1) = iN d := rfl
    rw [hpr]
    simp (disch := omega) only [gd_t, gd_T, bx_some, bx_thr, bd_def, nx_in, ↓nO_eq, l0, l1, l2, l3, l4, l5, l6, l7, l8, l30, l50, l64, l100, l200, l448, l1200, iN_add, iN_lt, iN_le, iN_inj, iN_clamp, iN_inb, iN_nO, nO_iN, nO_lt, iN_ltm, iN_lem, nO_le, iN_pred, if_pos, if_neg, ↓reduceIte, or_true, true_or, and_true, true_and, ne_eq, not_true_eq_false, not_false_eq_true, false_or, or_false, and_false, false_and, l_X3_fillLeastCosts_44]
