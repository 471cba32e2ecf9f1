def NdU (n : Nat) : List Nat → Prop
  | [] => True
  | c :: l => (c < n → ¬ c ∈ l) ∧ NdU n l
theorem En_nd (P : Pb) : ∀ (k d : Nat) (fr : Nat → Bool) (a : List Nat), a ∈ En P k d fr → (∀ c, c ∈ a → c < P.1 → fr c = true) ∧ NdU P.1 a
  | 0, d, fr, a, h => by
    rw [List.mem_singleton.mp h]
    exact ⟨fun c hc => (by cases hc), trivial⟩
  | k + 1, d, fr, a, h => by
    rcases List.mem_append.mp h with h | h
    · obtain ⟨x, l, h1, h2, h3, h4, rfl⟩ := blk_mem _ _ h
      obtain ⟨q1, q2⟩ := En_nd P k (d + 1) _ l h4
      have hfx : fr x = true := (Bool.and_eq_true_iff.mp h3).1
      have rmx : ∀ c, rm fr x c = true → fr c = true ∧ ¬ c = x := fun c hc => by
        unfold rm at hc
        obtain ⟨y1, y2⟩ := Bool.and_eq_true_iff.mp hc
        exact ⟨y1, of_decide_eq_true y2⟩
      refine ⟨fun c hc hcn => ?_, fun hxn hm => (rmx x (q1 x hm hxn)).2 rfl, q2⟩
      rcases List.mem_cons.mp hc with rfl | hc
      · exact hfx
      · exact (rmx c (q1 c hc hcn)).1
    · obtain ⟨l, hl, rfl⟩ := List.mem_map.mp h
      obtain ⟨q1, q2⟩ := En_nd P k (d + 1) _ l hl
      refine ⟨fun c hc hcn => ?_, fun hxn => absurd hxn (Nat.lt_irrefl _), q2⟩
      rcases List.mem_cons.mp hc with rfl | hc
      · exact absurd hcn (Nat.lt_irrefl _)
      · exact q1 c hc hcn
theorem NdU.mid {n c : Nat} {r : List Nat} : ∀ {p : List Nat}, NdU n (p ++ c :: r) → c < n → ¬ c ∈ p ∧ ¬ c ∈ r
  | [], h, hc => ⟨fun z => (by cases z), h.1 hc⟩
  | x :: p, h, hc => by
    obtain ⟨h1, h2⟩ := NdU.mid (p := p) h.2 hc
    refine ⟨fun z => ?_, h2⟩
    rcases List.mem_cons.mp z with z | z
    · subst z
      exact h.1 hc (List.mem_append_right _ (List.mem_cons_self ..))
    · exact h1 z
theorem best_nd (A : Ab) : NdU (nU A) (bestA A) := (En_nd (PA A) (nD A) 0 (fr0 A) _ (PT_best (PA A) (nD A) 0 (fr0 A)).1.mem).2
theorem at16 {σ : Wd} {d : Nat} {v : Int32} (hd : d < 6) (h : σ.1 16 0 d = v) : f_X3_at_16 σ (iN d) nO = some (.inl v, σ) := by
  simp (disch := omega) only [gd_t, gd_T, bx_some, bx_thr, bd_def, nx_in, ↓nO_eq, l0, l1, l2, l3, l4, l5, l6, l7, l8, l30, l50, l64, l100, l200, l448, l1200, iN_add, iN_lt, iN_le, iN_inj, iN_clamp, iN_inb, iN_nO, nO_iN, nO_lt, iN_ltm, iN_lem, nO_le, iN_pred, if_pos, if_neg, ↓reduceIte, or_true, true_or, and_true, true_and, ne_eq, not_true_eq_false, not_false_eq_true, false_or, or_false, and_false, false_and, f_X3_at_16, h]
def lvs (A : Ab) (d : Nat) : List Nat → Ab
  | [] => A
  | c :: l => lvs (lv A d c) (d + 1) l
def cms (A : Ab) (d : Nat) : List Nat → Ab
  | [] => A
  | c :: l => cms (cm A d c) (d + 1) l
/-- as many of all as before -/
def Sm (A B : Ab) : Prop := B.2.2.2 = A.2.2.2
theorem cm_nums (A : Ab) (d c : Nat) : (cm A d c).2.2.2 = A.2.2.2 ∧ fl (cm A d c) = fl A ∧ (∀ t i k, t ≠ 31 → t ≠ 33 → t ≠ 34 → t ≠ 35 → (cm A d c).1 t i k = A.1 t i k) ∧ ∀ u, (cm A d c).1 31 u 0 = if ¬ c = nU A ∧ u = c then A.1 45 d 0 else A.1 31 u 0 := by
  unfold cm
  by_cases h : c = nU A
  · rw [if_pos h]
    exact ⟨rfl, rfl, fun _ _ _ _ _ _ _ => rfl, fun u => by rw [if_neg (fun z => z.1 h)]⟩
  · rw [if_neg h]
    refine ⟨rfl, rfl, fun t i k h1 h2 h3 h4 => ?_, fun u => ?_⟩
    · show (grA (aw A 31 c 0 (A.1 45 d 0)) c (A.1 46 d 0)).1 t i k = _
      rw [grA_rd, if_neg (fun z => h2 z.1), if_neg (fun z => h4 z.1), if_neg (fun z => h3 z.1), aw_rd, if_neg (fun z => h1 z.1)]
    · show (grA (aw A 31 c 0 (A.1 45 d 0)) c (A.1 46 d 0)).1 31 u 0 = _
      rw [grA_rd, if_neg (by omega), if_neg (by omega), if_neg (by omega), aw_rd]
      by_cases hu : u = c
      · rw [if_pos ⟨rfl, hu, rfl⟩, if_pos ⟨h, hu⟩]
      · rw [if_neg (fun z => hu z.2.1), if_neg (fun z => hu z.2)]
theorem cm_G {A : Ab} (G : Gd A) (d c : Nat) : Gd (cm A d c) := by
  obtain ⟨g1, g2, g3, g4, g5, g6⟩ := G
  obtain ⟨n1, n2, n3, _⟩ := cm_nums A d c
  have e0 : nU (cm A d c) = nU A := congrFun n1 0
  have e1 : nD (cm A d c) = nD A := congrFun n1 1
  have e2 : nT (cm A d c) = nT A := congrFun n1 2
  refine ⟨by rw [e0]; exact g1, by rw [e1]; exact g2, by rw [e2]; exact g3, fun u hu => ?_, fun x hx => ?_, fun x hx hx2 t ht => ?_⟩
  · rw [n2]; rw [e0] at hu; exact g4 u hu
  · rw [e1] at hx
    rw [n3 _ _ _ (by decide) (by decide) (by decide) (by decide), n3 _ _ _ (by decide) (by decide) (by decide) (by decide)]
    exact g5 x hx
  · rw [e1] at hx2
    rw [n3 _ _ _ (by decide) (by decide) (by decide) (by decide)]
    exact g6 x hx hx2 t ht
theorem cm_W {A : Ab} (G : Gd A) {r : List Nat} {d c : Nat} (hd : d < nD A) (W : Gr A (fun u => u ∈ c :: r)) (hc : c ≤ nU A) (hin : c < nU A → ¬ c ∈ r) : Gr (cm A d c) (fun u => u ∈ r) := by
  obtain ⟨n1, n2, n3, n4⟩ := cm_nums A d c
  have e0 : nU (cm A d c) = nU A := congrFun n1 0
  by_cases hcu : c = nU A
  · have e : cm A d c = A := by
      unfold cm
      rw [if_pos hcu]
    rw [e]
    refine ⟨fun x hx => ?_, fun u hu => ?_⟩
    · obtain ⟨w1, w2⟩ := W.1 x hx
      refine ⟨w1, fun u hu => ?_⟩
      obtain ⟨y1, y2, y3⟩ := w2 u hu
      exact ⟨y1, y2, fun z => y3 (List.mem_cons_of_mem _ z)⟩
    · obtain ⟨x, hx, y1, y2⟩ := W.2 u hu
      refine ⟨x, hx, y1, y2.imp (fun z => ?_) id⟩
      rcases List.mem_cons.mp z with z | z
      · omega
      · exact z
  · have hcn : c < nU A := by omega
    obtain ⟨e, he, he2⟩ := (G.2.2.2.2.1 d hd).1
    have hee : (A.1 45 d 0).toNatClampNeg = e := by rw [he2]; exact iN_clamp (by omega)
    obtain ⟨_, hni⟩ := W.less G.1 hcn he (List.mem_cons_self ..)
    have er : ∀ x, rw_ (cm A d c) x = if x = e then rw_ A e ++ [c] else rw_ A x := fun x => by
      unfold cm
      rw [if_neg hcu, hee]
      rfl
    have e31 : ∀ u, (cm A d c).1 31 u 0 = if u = c then iN e else A.1 31 u 0 := fun u => by
      rw [n4, he2]
      by_cases hu : u = c
      · rw [if_pos ⟨hcu, hu⟩, if_pos hu]
      · rw [if_neg (fun z => hu z.2), if_neg hu]
    refine ⟨fun x hx => ?_, fun u hu => ?_⟩
    · obtain ⟨w1, w2⟩ := W.1 x hx
      rw [er, e0]
      by_cases h : x = e
      · rw [if_pos h]
        rw [h] at w1 w2
        refine ⟨?_, fun u hu => ?_⟩
        · rw [List.nodup_append]
          refine ⟨w1, by simp, fun a ha b hb => ?_⟩
          rw [List.mem_singleton.mp hb]
          exact fun z => hni (z ▸ ha)
        · rw [e31]
          rcases List.mem_append.mp hu with hu | hu
          · obtain ⟨y1, y2, y3⟩ := w2 u hu
            have huc : ¬ u = c := fun z => hni (z ▸ hu)
            rw [if_neg huc, h]
            exact ⟨y1, y2, fun z => y3 (List.mem_cons_of_mem _ z)⟩
          · have huc := List.mem_singleton.mp hu
            rw [if_pos huc, h, huc]
            exact ⟨hcn, rfl, hin hcn⟩
      · rw [if_neg h]
        refine ⟨w1, fun u hu => ?_⟩
        obtain ⟨y1, y2, y3⟩ := w2 u hu
        have huc : ¬ u = c := fun z => y3 (by rw [z]; exact List.mem_cons_self ..)
        rw [e31, if_neg huc]
        exact ⟨y1, y2, fun z => y3 (List.mem_cons_of_mem _ z)⟩
    · rw [e0] at hu
      rw [e31]
      by_cases huc : u = c
      · refine ⟨e, he, by rw [if_pos huc], Or.inr ?_⟩
        rw [er, if_pos rfl, huc]
        exact List.mem_append_right _ (List.mem_singleton.mpr rfl)
      · obtain ⟨x, hx, y1, y2⟩ := W.2 u hu
        refine ⟨x, hx, by rw [if_neg huc]; exact y1, ?_⟩
        rcases y2 with y2 | y2
        · exact Or.inl ((List.mem_cons.mp y2).resolve_left huc)
        · refine Or.inr ?_
          rw [er]
          by_cases h : x = e
          · rw [if_pos h, ← h]
            exact List.mem_append_left _ y2
          · rw [if_neg h]; exact y2
theorem k_lvs {n q T : Nat} {L : List Nat} (hL : L.length = q) (hLn : ∀ c, c ∈ L → c ≤ n) (hN : NdU n L) (hT : T < 200) (hq : q ≤ 6) : ∀ (r p : List Nat) (fu : Nat) (σ : Wd) (A : Ab), L = p ++ r → r.length < fu → RC σ A → Gd A → Gr A (fun u => u ∈ p) → nU A = n → nD A = q → nT A = T → (∀ d c, L[d]? = some c → σ.1 16 0 d = chv n c) → ∃ σ', l_X9_leaveRows_2 fu σ (iN p.length) = some (.inl (), σ') ∧ CS σ σ' ∧ (∀ t, 12 ≤ t ∧ t ≤ 18 → σ'.1 t = σ.1 t) ∧ RC σ' (lvs A p.length r)
  | [], p, fu, σ, A, hp, hfu, C, G, W, h1, h2, h3, hg => by
    obtain ⟨f, rfl⟩ : ∃ f, fu = f + 1 := ⟨fu - 1, by simp at hfu; omega⟩
    rw [List.append_nil] at hp
    subst hp
    refine ⟨σ, ?_, CS.rf σ, fun _ _ => rfl, C⟩
    have hs1 := c_sz1 C.1
    rw [h2] at hs1
    simp (disch := omega) only [gd_t, gd_T, bx_some, bx_thr, bd_def, nx_in, ↓nO_eq, l0, l1, l2, l3, l4, l5, l6, l7, l8, l30, l50, l64, l100, l200, l448, l1200, iN_add, iN_lt, iN_le, iN_inj, iN_clamp, iN_inb, iN_nO, nO_iN, nO_lt, iN_ltm, iN_lem, nO_le, iN_pred, if_pos, if_neg, ↓reduceIte, or_true, true_or, and_true, true_and, ne_eq, not_true_eq_false, not_false_eq_true, false_or, or_false, and_false, false_and, l_X9_leaveRows_2, hs1]
  | c :: r, p, fu, σ, A, hp, hfu, C, G, W, h1, h2, h3, hg => by
    obtain ⟨f, rfl⟩ : ∃ f, fu = f + 1 := ⟨fu - 1, by simp at hfu; omega⟩
    have hLc : L[p.length]? = some c := by rw [hp]; exact at_mid c r p
    have hlt := (List.getElem?_eq_some_iff.mp hLc).1
    have hcn := hLn c (List.mem_of_getElem? hLc)
    have hg1 := hg _ _ hLc
    obtain ⟨σ1, q1, q2, q3, q4⟩ := k_lv (d := p.length) (c := c) C G W (by omega) (by omega) (by omega) (fun ρ hρ => at16 (by omega) (by rw [hρ, h1]; exact hg1)) (fun hc => (NdU.mid (p := p) (by rw [← hp]; exact hN) (by omega)).1)
    obtain ⟨n1, _, _⟩ := lv_nums A p.length c
    have W1 := lv_W W (d := p.length) (c := c) (by omega) (fun hc => (NdU.mid (p := p) (by rw [← hp]; exact hN) (by omega)).1)
    obtain ⟨σ2, z1, z2, z3, z4⟩ := k_lvs hL hLn hN hT hq r (p ++ [c]) f σ1 (lv A p.length c) (by rw [hp]; simp) (by simp at hfu; omega) q4 (lv_G G (by omega)) W1 ((congrFun n1 0).trans h1) ((congrFun n1 1).trans h2) ((congrFun n1 2).trans h3) (fun d x hd => by rw [q3 16 (by decide)]; exact hg d x hd)
    have hpl : (p ++ [c]).length = p.length + 1 := by simp
    rw [hpl] at z1 z4
    exact ⟨σ2, (q1 f).trans z1, q2.tr z2, fun t ht => (z3 t ht).trans (q3 t ht), z4⟩
theorem lvs_ok {n q : Nat} {L : List Nat} (hL : L.length = q) (hLn : ∀ c, c ∈ L → c ≤ n) (hN : NdU n L) : ∀ (r p : List Nat) (A : Ab), L = p ++ r → Gd A → Gr A (fun u => u ∈ p) → nU A = n → nD A = q → Gd (lvs A p.length r) ∧ Gr (lvs A p.length r) (fun u => u ∈ L) ∧ Sm A (lvs A p.length r)
  | [], p, A, hp, G, W, h1, h2 => by
    rw [List.append_nil] at hp
    subst hp
    exact ⟨G, W, rfl⟩
  | c :: r, p, A, hp, G, W, h1, h2 => by
    have hLc : L[p.length]? = some c := by rw [hp]; exact at_mid c r p
    have hlt := (List.getElem?_eq_some_iff.mp hLc).1
    have hcn := hLn c (List.mem_of_getElem? hLc)
    obtain ⟨n1, _, _⟩ := lv_nums A p.length c
    have W1 := lv_W W (d := p.length) (c := c) (by omega) (fun hc => (NdU.mid (p := p) (by rw [← hp]; exact hN) (by omega)).1)
    have ih := lvs_ok hL hLn hN r (p ++ [c]) (lv A p.length c) (by rw [hp]; simp) (lv_G G (by omega)) W1 ((congrFun n1 0).trans h1) ((congrFun n1 1).trans h2)
    have hpl : (p ++ [c]).length = p.length + 1 := by simp
    rw [hpl] at ih
    exact ⟨ih.1, ih.2.1, ih.2.2.trans n1⟩
theorem k_cms {n q : Nat} {L : List Nat} (hL : L.length = q) (hLn : ∀ c, c ∈ L → c ≤ n) (hN : NdU n L) (hq : q ≤ 6) : ∀ (r p : List Nat) (fu : Nat) (σ : Wd) (A : Ab), L = p ++ r → r.length < fu → RC σ A → Gd A → Gr A (fun u => u ∈ r) → nU A = n → nD A = q → (∀ d c, L[d]? = some c → σ.1 16 0 d = chv n c) → ∃ σ', l_X9_comeToDepots_2 fu σ (iN p.length) = some (.inl (), σ') ∧ CS σ σ' ∧ (∀ t, 12 ≤ t ∧ t ≤ 18 → σ'.1 t = σ.1 t) ∧ RC σ' (cms A p.length r) ∧ Gd (cms A p.length r) ∧ Gr (cms A p.length r) (fun _ => False) ∧ Sm A (cms A p.length r)
  | [], p, fu, σ, A, hp, hfu, C, G, W, h1, h2, hg => by
    obtain ⟨f, rfl⟩ : ∃ f, fu = f + 1 := ⟨fu - 1, by simp at hfu; omega⟩
    rw [List.append_nil] at hp
    subst hp
    refine ⟨σ, ?_, CS.rf σ, fun _ _ => rfl, C, G, ⟨fun x hx => ⟨(W.1 x hx).1, fun u hu => ⟨((W.1 x hx).2 u hu).1, ((W.1 x hx).2 u hu).2.1, id⟩⟩, fun u hu => ?_⟩, rfl⟩
    · have hs1 := c_sz1 C.1
      rw [h2] at hs1
      simp (disch := omega) only [gd_t, gd_T, bx_some, bx_thr, bd_def, nx_in, ↓nO_eq, l0, l1, l2, l3, l4, l5, l6, l7, l8, l30, l50, l64, l100, l200, l448, l1200, iN_add, iN_lt, iN_le, iN_inj, iN_clamp, iN_inb, iN_nO, nO_iN, nO_lt, iN_ltm, iN_lem, nO_le, iN_pred, if_pos, if_neg, ↓reduceIte, or_true, true_or, and_true, true_and, ne_eq, not_true_eq_false, not_false_eq_true, false_or, or_false, and_false, false_and, l_X9_comeToDepots_2, hs1]
    · obtain ⟨x, hx, y1, y2⟩ := W.2 u hu
      exact ⟨x, hx, y1, y2.imp (fun z => by cases z) id⟩
  | c :: r, p, fu, σ, A, hp, hfu, C, G, W, h1, h2, hg => by
    obtain ⟨f, rfl⟩ : ∃ f, fu = f + 1 := ⟨fu - 1, by simp at hfu; omega⟩
    have hLc : L[p.length]? = some c := by rw [hp]; exact at_mid c r p
    have hlt := (List.getElem?_eq_some_iff.mp hLc).1
    have hcn := hLn c (List.mem_of_getElem? hLc)
    have hg1 := hg _ _ hLc
    obtain ⟨σ1, q1, q2, q3, q4⟩ := k_cm (d := p.length) (c := c) C G W (by omega) (by omega) (at16 (by omega) (by rw [h1]; exact hg1)) (fun hc => List.mem_cons_self ..)
    obtain ⟨n1, _, _⟩ := cm_nums A p.length c
    have W1 := cm_W G (d := p.length) (c := c) (by omega) W (by omega) (fun hc => (NdU.mid (p := p) (by rw [← hp]; exact hN) (by omega)).2)
    obtain ⟨σ2, z1, z2, z3, z4, z5, z6, z7⟩ := k_cms hL hLn hN hq r (p ++ [c]) f σ1 (cm A p.length c) (by rw [hp]; simp) (by simp at hfu; omega) q4 (cm_G G _ _) W1 ((congrFun n1 0).trans h1) ((congrFun n1 1).trans h2) (fun d x hd => by rw [q3 16 (by decide)]; exact hg d x hd)
    have hpl : (p ++ [c]).length = p.length + 1 := by simp
    rw [hpl] at z1 z4 z5 z6 z7
    exact ⟨σ2, (q1 f).trans z1, q2.tr z2, fun t ht => (z3 t ht).trans (q3 t ht), z4, z5, z6, z7.trans n1⟩
