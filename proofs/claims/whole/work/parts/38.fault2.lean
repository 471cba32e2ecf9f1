theorem wr_wr (σ : Wd) (t i k : Nat) (a b : Int32) : wr (wr σ t i k a) t i k b = wr σ t i k b := by
  unfold wr
  refine Prod.ext ?_ rfl
  funext t' i' k'
  show (if t' = t ∧ i' = i ∧ k' = k then b else (if t' = t ∧ i' = i ∧ k' = k then a else σ.1 t' i' k')) = if t' = t ∧ i' = i ∧ k' = k then b else σ.1 t' i' k'
  by_cases h : t' = t ∧ i' = i ∧ k' = k
  · rw [if_pos h, if_pos h]
  · rw [if_neg h, if_neg h, if_neg h]
def fM (τ : Wd) (u L : Nat) (f : Fa) : Wd := wr (wr (wr (wr (wr (wr τ 30 0 0 0) 40 0 (8 * u + L) f.1) 41 0 (8 * u + L) f.2.1) 42 0 (8 * u + L) f.2.2.1) 43 0 (8 * u + L) f.2.2.2) 39 0 u (iN (L + 1))
theorem fM_S (τ : Wd) (u L : Nat) (f : Fa) : RS τ (fM τ u L f) := ((((((RS.rf τ).wr (by decide)).wr (by decide)).wr (by decide)).wr (by decide)).wr (by decide)).wr (by decide)
theorem fM_off (τ : Wd) (u L : Nat) (f : Fa) {t : Nat} (h : t ≠ 30 ∧ ¬ (39 ≤ t ∧ t ≤ 43)) : (fM τ u L f).1 t = τ.1 t := by
  funext i k
  unfold fM
  rw [wr_rd, if_neg (by omega), wr_rd, if_neg (by omega), wr_rd, if_neg (by omega), wr_rd, if_neg (by omega), wr_rd, if_neg (by omega), wr_rd, if_neg (by omega)]
theorem fa_R {τ : Wd} {A : Ab} (T : RR τ A) {u : Nat} (hu : u < nU A) (g6 : nU A ≤ 6) (h8 : ∀ v, v < nU A → (fl A v).length ≤ 8) (hl : (fl A u).length < 8) (f : Fa) : RR (fM τ u (fl A u).length f) (faA A u f) := by
  obtain ⟨⟨l1, l2, l3, l4, l5, l6⟩, F, U, D, E, R1, L, Z⟩ := T
  refine ⟨⟨l1, l2, l3, l4, l5, l6⟩, fun v hv => ?_, ?_, ?_, ?_, ?_, ?_, fun v hv hv6 => ?_⟩
  · have hv : v < nU A := hv
    have hfl : fl (faA A u f) v = if v = u then fl A u ++ [f] else fl A v := rfl
    obtain ⟨q1, q2⟩ := F v hv
    have h39 : (fM τ u (fl A u).length f).1 39 0 v = if v = u then iN ((fl A u).length + 1) else τ.1 39 0 v := by
      unfold fM
      rw [wr_rd]
      by_cases h : v = u
      · rw [if_pos ⟨rfl, rfl, h⟩, if_pos h]
      · rw [if_neg (fun z => h z.2.2), if_neg h, wr_rd, if_neg (by omega), wr_rd, if_neg (by omega), wr_rd, if_neg (by omega), wr_rd, if_neg (by omega), wr_rd, if_neg (by omega)]
    have h4 : ∀ x, ((fM τ u (fl A u).length f).1 40 0 x, (fM τ u (fl A u).length f).1 41 0 x, (fM τ u (fl A u).length f).1 42 0 x, (fM τ u (fl A u).length f).1 43 0 x) = if x = 8 * u + (fl A u).length then f else (τ.1 40 0 x, τ.1 41 0 x, τ.1 42 0 x, τ.1 43 0 x) := fun x => by
      unfold fM
      simp only [wr_rd]
      by_cases h : x = 8 * u + (fl A u).length
      · simp [h]
      · simp [h]
    rw [hfl, h39]
    by_cases h : v = u
    · subst h
      rw [if_pos rfl, if_pos rfl, List.length_append]
      refine ⟨rfl, fun j g hg => ?_⟩
      rw [h4]
      by_cases hj : j = (fl A v).length
      · rw [hj, List.getElem?_append_right (Nat.le_refl _), Nat.sub_self] at hg
        cases hg
        rw [if_pos (by omega)]
      · have hj2 : j < (fl A v).length := by
          have := (List.getElem?_eq_some_iff.mp hg).1
          rw [List.length_append] at this
          simp at this
          omega
        rw [List.getElem?_append_left hj2] at hg
        rw [if_neg (by omega)]
        exact q2 j g hg
    · rw [if_neg h, if_neg h]
      refine ⟨q1, fun j g hg => ?_⟩
      have hj2 := (List.getElem?_eq_some_iff.mp hg).1
      have := h8 v hv
      rw [h4, if_neg (by omega)]
      exact q2 j g hg
  · exact RRu.fr U (fun t a b => fM_off _ _ _ _ (by omega))
  · exact RRd.fr D (fun t a b => fM_off _ _ _ _ (by omega))
  · exact RRe.fr E (fun t a b => fM_off _ _ _ _ (by omega))
  · exact RRr.fr R1 (fM_off _ _ _ _ (by decide)) (fM_off _ _ _ _ (by decide))
  · exact RRg.fr L (fM_off _ _ _ _ (by decide))
  · have hv : nU A ≤ v := hv
    rw [fM_off τ u _ f (t := 35) (by decide), fM_off τ u _ f (t := 36) (by decide)]
    have h39 : (fM τ u (fl A u).length f).1 39 0 v = τ.1 39 0 v := by
      unfold fM
      rw [wr_rd, if_neg (by omega), wr_rd, if_neg (by omega), wr_rd, if_neg (by omega), wr_rd, if_neg (by omega), wr_rd, if_neg (by omega), wr_rd, if_neg (by omega)]
    rw [h39]
    exact Z v hv hv6
/-! the second half's -/
theorem m_f110 {ρ : Wd} {u κ L T : Nat} (hu : u < 6) (hκ : κ < 4) (hL : L < 8) {w a : Int32} (h0 : ρ.1 30 0 0 = 0) (hT : ρ.1 30 0 1 = iN T) (hm : ρ.1 39 0 u = iN L) : j_X10_fault_110 ρ (iN u) (iN κ) w a = some (.inl (iN (L + 1)), wr (wr (wr (wr (wr ρ 40 0 (8 * u + L) (iN κ)) 41 0 (8 * u + L) (iN T)) 42 0 (8 * u + L) (if κ ≤ 1 then w else nO)) 43 0 (8 * u + L) (if κ = 0 ∨ κ = 2 then a else nO)) 39 0 u (iN (L + 1))) := by
  have n01 : ¬ iN 1 < iN 0 := by decide
  have x8 : (8 : Int32) * iN u + iN L = iN (8 * u + L) := by rw [show (8 : Int32) = iN 8 from rfl, iN_mul, iN_add]
  have i8 : inb (iN (8 * u + L)) 48 := (iN_inb (by omega)).mpr (by omega)
  have c8 : (iN (8 * u + L)).toNatClampNeg = 8 * u + L := iN_clamp (by omega)
  have iu : inb (iN u) 6 := (iN_inb (by omega)).mpr hu
  have cu : (iN u).toNatClampNeg = u := iN_clamp (by omega)
  have T1 : (wr ρ 40 0 (8 * u + L) (iN κ)).1 30 0 1 = iN T := by rw [wr_rd, if_neg (by omega)]; exact hT
  have m4 : ∀ a b c d, (wr (wr (wr (wr ρ 40 0 (8 * u + L) a) 41 0 (8 * u + L) b) 42 0 (8 * u + L) c) 43 0 (8 * u + L) d).1 39 0 u = iN L := fun a b c d => by
    rw [wr_rd, if_neg (by omega), wr_rd, if_neg (by omega), wr_rd, if_neg (by omega), wr_rd, if_neg (by omega)]; exact hm
  unfold j_X10_fault_110
  rw [h0, if_pos (by decide), gd_t iu, cu, hm, x8, bd_def, gd_t i8, c8, bd_def, T1, bd_def]
  have fin : ∀ (ρ' : Wd) (x : Int32), ρ'.1 39 0 u = iN L → j_X10_fault_189 ρ' (iN (8 * u + L)) (iN u) (iN κ) w a x (iN (8 * u + L)) = some (.inl (iN (L + 1)), wr (wr ρ' 43 0 (8 * u + L) x) 39 0 u (iN (L + 1))) := fun ρ' x h => by
    have h2 : (wr ρ' 43 0 (8 * u + L) x).1 39 0 u = iN L := by rw [wr_rd, if_neg (by omega)]; exact h
    unfold j_X10_fault_189
    rw [gd_t i8, c8, bd_def, gd_t iu, cu, h2, bd_def, wr_same]
    rw [show iN L + 1 = iN (L + 1) from iN_add L 1]
  have q3 : ∀ a b c, (wr (wr (wr ρ 40 0 (8 * u + L) a) 41 0 (8 * u + L) b) 42 0 (8 * u + L) c).1 39 0 u = iN L := fun a b c => by
    rw [wr_rd, if_neg (by omega), wr_rd, if_neg (by omega), wr_rd, if_neg (by omega)]; exact hm
  have tl : ∀ x : Int32, j_X10_fault_167 (wr (wr ρ 40 0 (8 * u + L) (iN κ)) 41 0 (8 * u + L) (iN T)) (iN (8 * u + L)) (iN u) (iN κ) w a x (iN (8 * u + L)) = some (.inl (iN (L + 1)), wr (wr (wr (wr (wr ρ 40 0 (8 * u + L) (iN κ)) 41 0 (8 * u + L) (iN T)) 42 0 (8 * u + L) x) 43 0 (8 * u + L) (if κ = 0 ∨ κ = 2 then a else nO)) 39 0 u (iN (L + 1))) := fun x => by
    unfold j_X10_fault_167 j_X10_fault_183
    rw [gd_t i8, c8, bd_def, fin _ _ (q3 _ _ _), fin _ _ (q3 _ _ _)]
    have hk : κ = 0 ∨ κ = 1 ∨ κ = 2 ∨ κ = 3 := by omega
    rcases hk with rfl | rfl | rfl | rfl
    · rw [if_pos (show iN 0 = 0 from rfl), if_pos (Or.inl rfl)]
    · rw [if_neg (by decide), if_neg (by decide), if_neg (by omega)]; rfl
    · rw [if_neg (by decide), if_pos (show iN 2 = 2 from rfl), if_pos (Or.inr rfl)]
    · rw [if_neg (by decide), if_neg (by decide), if_neg (by omega)]; rfl
  rw [tl, tl]
  by_cases h1 : κ ≤ 1
  · rw [if_neg (show ¬ 1 < iN κ from by rw [show (1 : Int32) = iN 1 from rfl, iN_lt (by decide) (by omega)]; omega), if_pos h1]
  · rw [if_pos (show 1 < iN κ from by rw [show (1 : Int32) = iN 1 from rfl, iN_lt (by decide) (by omega)]; omega), if_neg h1]; rfl
theorem m_f110n {ρ : Wd} {a1 a2 a3 a4 : Int32} (h0 : ¬ ρ.1 30 0 0 ≤ 0) : j_X10_fault_110 ρ a1 a2 a3 a4 = some (.inl 0, ρ) := by
  unfold j_X10_fault_110
  rw [if_neg h0]
theorem m_f87n {ρ : Wd} {a1 a2 a3 a4 : Int32} {k : Nat} (h0 : ρ.1 30 0 0 = iN k) (hk : 0 < k) (hk2 : k < 10) : j_X10_fault_87 ρ a1 a2 a3 a4 = some (.inl 0, ρ) := by
  unfold j_X10_fault_87
  rw [h0, if_neg (by rw [show (0 : Int32) = iN 0 from rfl, iN_inj (by omega) (by decide)]; omega)]
  exact m_f110n (by rw [h0, show (0 : Int32) = iN 0 from rfl, iN_le (by omega) (by decide)]; omega)
theorem m_f82 {ρ : Wd} {a1 a2 a3 a4 : Int32} : j_X10_fault_82 ρ a1 a2 a3 a4 = some (.inl 0, wr ρ 30 0 0 2) := by
  unfold j_X10_fault_82
  rw [bd_def]
  exact m_f87n (k := 2) (wr_same _ _ _ _ _) (by decide) (by decide)
/-- the first tests: 1, or on with 0 -/
theorem m_fp1 {τ : Wd} {A : Ab} (T : RR τ A) (g6 : nU A ≤ 6) {p q w a : Int32} (h : (p < iN 0 ∨ ¬ p < iN 0 ∧ iN (nU A) ≤ p) ∨ ((∃ u, u < nU A ∧ p = iN u) ∧ ((q < iN 0 ∨ ¬ q < iN 0 ∧ iN 4 ≤ q) ∨ ∃ κ, κ ≤ 1 ∧ q = iN κ ∧ (w < iN 0 ∨ ¬ w < iN 0 ∧ iN 4 ≤ w)))) : f_X10_fault τ p q w a = some (.inl 0, wr τ 30 0 0 1) := by
  have n10 : ¬ iN 1 = 0 := by decide
  have t : j_X10_fault_34 τ p q w a = some (.inl 0, wr τ 30 0 0 1) := by
    unfold j_X10_fault_34 j_X10_fault_39
    rw [bd_def, wr_same, if_neg (by decide)]
    exact m_f87n (k := 1) (wr_same _ _ _ _ _) (by decide) (by decide)
  unfold f_X10_fault
  rcases h with h | ⟨⟨u, hu, rfl⟩, h | ⟨κ, hκ, rfl, h⟩⟩
  · rw [m_isUnit_no T.1 g6 h, bx_some, if_pos (show iN 0 = 0 from rfl), t]
  · rw [m_isUnit T.1 g6 hu, bx_some, if_neg n10, show f_X10_between τ q 0 3 = some (.inl (iN 0), τ) from b_outL (m := 3) (by decide) h, bx_some, if_pos (show iN 0 = 0 from rfl), t]
  · rw [m_isUnit T.1 g6 hu, bx_some, if_neg n10, show f_X10_between τ (iN κ) 0 3 = some (.inl (iN 1), τ) from b_inL (m := 3) (by omega) (by decide), bx_some, if_neg n10, if_neg (show ¬ 1 < iN κ from by rw [show (1 : Int32) = iN 1 from rfl, iN_lt (by decide) (by omega)]; omega), show f_X10_between τ w 0 3 = some (.inl (iN 0), τ) from b_outL (m := 3) (by decide) h, bx_some, if_pos (show iN 0 = 0 from rfl), t]
theorem m_fp2 {τ : Wd} {A : Ab} (T : RR τ A) (g6 : nU A ≤ 6) {u : Nat} (hu : u < nU A) {κ : Nat} (hκ : κ < 4) {w a : Int32} (hw : κ ≤ 1 → ∃ x, x < 4 ∧ w = iN x) : f_X10_fault τ (iN u) (iN κ) w a = j_X10_fault_38 τ (iN u) (iN κ) w a := by
  have n10 : ¬ iN 1 = 0 := by decide
  unfold f_X10_fault
  rw [m_isUnit T.1 g6 hu, bx_some, if_neg n10, show f_X10_between τ (iN κ) 0 3 = some (.inl (iN 1), τ) from b_inL (m := 3) (by omega) (by decide), bx_some, if_neg n10]
  by_cases h1 : κ ≤ 1
  · obtain ⟨x, hx, rfl⟩ := hw h1
    rw [if_neg (show ¬ 1 < iN κ from by rw [show (1 : Int32) = iN 1 from rfl, iN_lt (by decide) (by omega)]; omega), show f_X10_between τ (iN x) 0 3 = some (.inl (iN 1), τ) from b_inL (m := 3) (by omega) (by decide), bx_some, if_neg n10]
  · rw [if_pos (show 1 < iN κ from by rw [show (1 : Int32) = iN 1 from rfl, iN_lt (by decide) (by omega)]; omega)]
theorem m_f38 {τ : Wd} {u κ : Nat} (hκ : κ < 4) {w a : Int32} (ha : amt κ a) : j_X10_fault_38 τ (iN u) (iN κ) w a = j_X10_fault_87 (wr τ 30 0 0 0) (iN u) (iN κ) w a := by
  have n10 : ¬ iN 1 = 0 := by decide
  unfold j_X10_fault_38 j_X10_fault_39
  rw [bd_def, wr_same, if_pos rfl]
  have hk : κ = 0 ∨ κ = 1 ∨ κ = 2 ∨ κ = 3 := by omega
  rcases hk with rfl | rfl | rfl | rfl
  · rw [if_pos (show iN 0 = 0 from rfl), bt_in (lo := 1) (hi := 20) (ha.1 rfl).1 (ha.1 rfl).2, bx_some, if_neg n10]
    unfold j_X10_fault_65
    rw [if_neg (by decide)]
  · rw [if_neg n10]
    unfold j_X10_fault_65
    rw [if_neg (by decide)]
  · rw [if_neg (by decide)]
    unfold j_X10_fault_65
    rw [if_pos (show iN 2 = 2 from rfl), bt_in (lo := 1) (hi := 100) (ha.2 rfl).1 (ha.2 rfl).2, bx_some, if_neg n10]
  · rw [if_neg (by decide)]
    unfold j_X10_fault_65
    rw [if_neg (by decide)]
theorem m_f38n {τ : Wd} {u κ : Nat} (hκ : κ < 4) {w a : Int32} (ha : ¬ amt κ a) : j_X10_fault_38 τ (iN u) (iN κ) w a = some (.inl 0, wr τ 30 0 0 2) := by
  unfold j_X10_fault_38 j_X10_fault_39
  rw [bd_def, wr_same, if_pos rfl]
  have hk : κ = 0 ∨ κ = 1 ∨ κ = 2 ∨ κ = 3 := by omega
  rcases hk with rfl | rfl | rfl | rfl
  · have hn : ¬ (¬ a < 1 ∧ a ≤ 20) := fun z => ha ⟨fun _ => z, fun q => absurd q (by decide)⟩
    rw [if_pos (show iN 0 = 0 from rfl), bt_out hn, bx_some, if_pos (show iN 0 = 0 from rfl), m_f82, wr_wr]
  · exact absurd ⟨fun q => absurd q (by decide), fun q => absurd q (by decide)⟩ ha
  · have hn : ¬ (¬ a < 1 ∧ a ≤ 100) := fun z => ha ⟨fun q => absurd q (by decide), fun _ => z⟩
    rw [if_neg (by decide)]
    unfold j_X10_fault_65
    rw [if_pos (show iN 2 = 2 from rfl), bt_out hn, bx_some, if_pos (show iN 0 = 0 from rfl), m_f82, wr_wr]
  · exact absurd ⟨fun q => absurd q (by decide), fun q => absurd q (by decide)⟩ ha
theorem fa_G {A : Ab} (G : Gd A) {u κ : Nat} (hu : u < nU A) (hκ : κ < 4) (h8 : (fl A u).length < 8) {w a : Int32} (hw : κ ≤ 1 → ∃ x, x < 4 ∧ w = iN x) (T : Nat) : Gd (faA A u (fT κ T w a)) := by
  obtain ⟨g1, g2, g3, g4, g5, g6⟩ := G
  refine ⟨g1, g2, g3, fun v hv => ?_, g5, g6⟩
  have hfl : fl (faA A u (fT κ T w a)) v = if v = u then fl A u ++ [fT κ T w a] else fl A v := rfl
  rw [hfl]
  by_cases h : v = u
  · subst h
    rw [if_pos rfl, List.length_append]
    refine ⟨by simp; omega, fun f hf => ?_⟩
    rcases List.mem_append.mp hf with h | h
    · exact (g4 v hv).2 f h
    · simp at h
      subst h
      refine ⟨⟨κ, hκ, rfl⟩, fun h0 => ?_⟩
      have h0 : iN κ = iN 0 := h0
      rw [iN_inj (by omega) (by decide)] at h0
      obtain ⟨x, hx, hx2⟩ := hw (by omega)
      refine ⟨x, hx, ?_⟩
      show (if κ ≤ 1 then w else nO) = _
      rw [if_pos (by omega), hx2]
  · rw [if_neg h]
    exact g4 v hv
theorem st_fault {σ : Wd} (I : Inv σ) (w1 w2 w3 w4 : Int32) : ∃ σ', c_fault σ w1 w2 w3 w4 = some σ' ∧ Inv σ' := by
  obtain ⟨A, C, R, G, W⟩ := I
  have g6 := G.1
  rcases rng w1 (nU A) (by omega) with ⟨u, hu, rfl⟩ | h1
  · have g8 := (G.2.2.2.1 u hu).1
    rcases rng w2 4 (by decide) with ⟨κ, hκ, rfl⟩ | h2
    · have hww : (κ ≤ 1 → ∃ x, x < 4 ∧ w3 = iN x) ∨ (κ ≤ 1 ∧ (w3 < iN 0 ∨ ¬ w3 < iN 0 ∧ iN 4 ≤ w3)) := by
        rcases rng w3 4 (by decide) with h | h
        · exact Or.inl (fun _ => h)
        · by_cases h1 : κ ≤ 1
          · exact Or.inr ⟨h1, h⟩
          · exact Or.inl (fun z => absurd z h1)
      rcases hww with hw | ⟨h1, hw⟩
      · by_cases ha : amt κ w4
        · by_cases h8 : (fl A u).length < 8
          · have hS : CS σ (fW σ u (fT κ (nT A) w3 w4)) := fun t ht => fW_off _ _ _ (by omega) (by omega)
            refine ok_in R hS (v := iN ((fl A u).length + 1)) ?_ (fa_C C hu g6 h8 _) (fun τ T => ⟨fM τ u (fl A u).length (fT κ (nT A) w3 w4), ?_, ?_, fM_S _ _ _ _, fa_R T hu g6 (fun v hv => (G.2.2.2.1 v hv).1) h8 _⟩) (fa_G G hu hκ h8 hw _) W
            · rw [k_pre C g6 hu hκ hw ha, k_add C hu g6 h8]
              unfold fT
              have e1 : (if (if κ ≤ 1 then iN 1 else iN 0) = 0 then (-1 : Int32) else w3) = if κ ≤ 1 then w3 else nO := by
                by_cases h : κ ≤ 1
                · rw [if_pos h, if_pos h, if_neg (by decide)]
                · rw [if_neg h, if_neg h, if_pos (show iN 0 = 0 from rfl)]; rfl
              have e2 : (if (if κ = 0 ∨ κ = 2 then iN 1 else iN 0) = 0 then (-1 : Int32) else w4) = if κ = 0 ∨ κ = 2 then w4 else nO := by
                by_cases h : κ = 0 ∨ κ = 2
                · rw [if_pos h, if_pos h, if_neg (by decide)]
                · rw [if_neg h, if_neg h, if_pos (show iN 0 = 0 from rfl)]; rfl
              rw [e1, e2]
            · have q1 := (T.2.1 u hu).1
              have e39 : (wr τ 30 0 0 0).1 39 0 u = iN (fl A u).length := by rw [wr_rd, if_neg (by omega)]; exact q1
              have eT : (wr τ 30 0 0 0).1 30 0 1 = iN (nT A) := by rw [wr_rd, if_neg (by omega)]; exact T.1.2.2.1
              rw [m_fp2 T g6 hu hκ hw, m_f38 hκ ha]
              unfold j_X10_fault_87
              rw [wr_same, if_pos rfl, gd_t ((iN_inb (by omega)).mpr (by omega)), iN_clamp (by omega), e39, if_neg (by rw [show (8 : Int32) = iN 8 from rfl, iN_inj (by omega) (by decide)]; omega), m_f110 (by omega) hκ h8 (wr_same _ _ _ _ _) eT e39]
              rfl
            · unfold fM
              rw [wr_rd, if_neg (by omega), wr_rd, if_neg (by omega), wr_rd, if_neg (by omega), wr_rd, if_neg (by omega), wr_rd, if_neg (by omega), wr_same]
          · have h8' : (fl A u).length = 8 := by omega
            refine ok_ex C R (k := 3) (E := "java/lang/IllegalStateException") ?_ wk3 (by decide) (thr_ok (fun τ T => ?_)) G W
            · rw [k_pre C g6 hu hκ hw ha, k_add_no C hu h8']
            · have q1 := (T.2.1 u hu).1
              have e39 : (wr τ 30 0 0 0).1 39 0 u = iN 8 := by rw [wr_rd, if_neg (by omega), q1, h8']
              rw [m_fp2 T g6 hu hκ hw, m_f38 hκ ha]
              unfold j_X10_fault_87
              rw [wr_same, if_pos rfl, gd_t ((iN_inb (by omega)).mpr (by omega)), iN_clamp (by omega), e39, if_pos (show iN 8 = 8 from rfl), bd_def, wr_wr]
              exact m_f110n (by rw [wr_same]; decide)
        · refine ok_ex C R (k := 2) (E := "java/lang/IllegalArgumentException") ?_ wk2 (by decide) (thr_ok (fun τ T => ?_)) G W
          · exact k_preA C g6 hu hκ hw ha
          · rw [m_fp2 T g6 hu hκ hw]
            exact m_f38n hκ ha
      · refine ok_ex C R (k := 1) (E := "java/lang/IndexOutOfBoundsException") ?_ wk1 (by decide) (thr_ok (fun τ T => ?_)) G W
        · exact k_preI C g6 hu h1 hw
        · exact m_fp1 T g6 (Or.inr ⟨⟨u, hu, rfl⟩, Or.inr ⟨κ, h1, rfl, hw⟩⟩)
    · refine ok_ex C R (k := 1) (E := "java/lang/IndexOutOfBoundsException") ?_ wk1 (by decide) (thr_ok (fun τ T => ?_)) G W
      · simp (disch := omega) only [gd_t, gd_T, bx_some, bx_thr, bd_def, nx_in, ↓nO_eq, l0, l1, l2, l3, l4, l5, l6, l7, l8, l30, l50, l64, l100, l200, l448, l1200, iN_add, iN_lt, iN_le, iN_inj, iN_clamp, iN_inb, iN_nO, nO_iN, nO_lt, iN_ltm, iN_lem, nO_le, iN_pred, if_pos, if_neg, ↓reduceIte, or_true, true_or, and_true, true_and, ne_eq, not_true_eq_false, not_false_eq_true, false_or, or_false, and_false, false_and, f_X9_fault, c_unitAt C.1 g6 hu, c_num_no h2]
      · exact m_fp1 T g6 (Or.inr ⟨⟨u, hu, rfl⟩, Or.inl h2⟩)
  · refine ok_ex C R (k := 1) (E := "java/lang/IndexOutOfBoundsException") ?_ wk1 (by decide) (thr_ok (fun τ T => ?_)) G W
    · simp (disch := omega) only [gd_t, gd_T, bx_some, bx_thr, bd_def, nx_in, ↓nO_eq, l0, l1, l2, l3, l4, l5, l6, l7, l8, l30, l50, l64, l100, l200, l448, l1200, iN_add, iN_lt, iN_le, iN_inj, iN_clamp, iN_inb, iN_nO, nO_iN, nO_lt, iN_ltm, iN_lem, nO_le, iN_pred, if_pos, if_neg, ↓reduceIte, or_true, true_or, and_true, true_and, ne_eq, not_true_eq_false, not_false_eq_true, false_or, or_false, and_false, false_and, f_X9_fault, c_unitAt_no C.1 h1]
    · exact m_fp1 T g6 (Or.inl h1)
