/-! LACK and HOMING; all lists -/
def lk (P : Pb) : Nat → List Nat → Nat
  | _, [] => 0
  | d, c :: l => (if c = P.1 then P.2.2.1 d else 0) + lk P (d + 1) l
def hm (P : Pb) : Nat → List Nat → Nat
  | _, [] => 0
  | d, c :: l => (if ¬ c = P.1 ∧ P.2.2.2 d c = true then 1 else 0) + hm P (d + 1) l
theorem cst_lk (P : Pb) : ∀ (l : List Nat) (d : Nat), cst P d l = 7 * (lk P d l : Int) - (hm P d l : Int)
  | [], d => rfl
  | c :: l, d => by
    show (if c = P.1 then 7 * (P.2.2.1 d : Int) else hc P d c) + cst P (d + 1) l = 7 * (((if c = P.1 then P.2.2.1 d else 0) + lk P (d + 1) l : Nat) : Int) - (((if ¬ c = P.1 ∧ P.2.2.2 d c = true then 1 else 0) + hm P (d + 1) l : Nat) : Int)
    rw [cst_lk P l (d + 1)]
    unfold hc
    by_cases h : c = P.1
    · rw [if_pos h, if_pos h, if_neg (fun z => z.1 h)]
      omega
    · rw [if_neg h, if_neg h]
      by_cases h2 : P.2.2.2 d c = true
      · rw [if_pos h2, if_pos ⟨h, h2⟩]
        omega
      · rw [if_neg h2, if_neg (fun z => h2 z.2)]
        omega
theorem hm_le (P : Pb) : ∀ (l : List Nat) (d : Nat), hm P d l ≤ l.length
  | [], d => Nat.le_refl _
  | c :: l, d => by
    have := hm_le P l (d + 1)
    show (if ¬ c = P.1 ∧ P.2.2.2 d c = true then 1 else 0) + hm P (d + 1) l ≤ l.length + 1
    split <;> omega
theorem lk_le (P : Pb) (hw : ∀ d, d < 6 → P.2.2.1 d ≤ 100) : ∀ (l : List Nat) (d : Nat), d + l.length ≤ 6 → lk P d l ≤ 100 * l.length
  | [], d, _ => Nat.le_refl _
  | c :: l, d, h => by
    simp at h
    have := lk_le P hw l (d + 1) (by omega)
    have := hw d (by omega)
    show (if c = P.1 then P.2.2.1 d else 0) + lk P (d + 1) l ≤ 100 * (l.length + 1)
    split <;> omega
/-- less cost: less LACK, or the same and more HOMING -/
theorem cst_lt {P : Pb} {a b : List Nat} {d : Nat} (ha : a.length ≤ 6) (hb : b.length ≤ 6) : cst P d a < cst P d b ↔ lk P d a < lk P d b ∨ lk P d a = lk P d b ∧ hm P d b < hm P d a := by
  have h1 := hm_le P a d
  have h2 := hm_le P b d
  rw [cst_lk, cst_lk]
  omega
theorem En_len (P : Pb) : ∀ (k d : Nat) (fr : Nat → Bool) (a : List Nat), a ∈ En P k d fr → a.length = k ∧ ∀ c, c ∈ a → c ≤ P.1
  | 0, d, fr, a, h => by
    rw [List.mem_singleton.mp h]
    exact ⟨rfl, fun c hc => by cases hc⟩
  | k + 1, d, fr, a, h => by
    rcases List.mem_append.mp h with h | h
    · obtain ⟨x, l, h1, h2, h3, h4, rfl⟩ := blk_mem _ _ h
      obtain ⟨q1, q2⟩ := En_len P k (d + 1) _ l h4
      refine ⟨by rw [List.length_cons, q1], fun c hc => ?_⟩
      rcases List.mem_cons.mp hc with rfl | hc
      · omega
      · exact q2 c hc
    · obtain ⟨l, hl, rfl⟩ := List.mem_map.mp h
      obtain ⟨q1, q2⟩ := En_len P k (d + 1) _ l hl
      refine ⟨by rw [List.length_cons, q1], fun c hc => ?_⟩
      rcases List.mem_cons.mp hc with rfl | hc
      · exact Nat.le_refl _
      · exact q2 c hc
/-- all lists of k choices -/
def Al (n : Nat) : Nat → List (List Nat)
  | 0 => [[]]
  | k + 1 => blk (fun _ => true) (fun _ => Al n k) 0 n ++ (Al n k).map (fun l => n :: l)
def alw (P : Pb) : Nat → (Nat → Bool) → List Nat → Bool
  | _, _, [] => true
  | d, fr, c :: l => if c = P.1 then alw P (d + 1) fr l else (fr c && P.2.1 d c) && alw P (d + 1) (rm fr c) l
theorem filter_map_cons {P : Pb} {d c : Nat} {fr fr2 : Nat → Bool} {b : Bool} (h : ∀ l, alw P d fr (c :: l) = (b && alw P (d + 1) fr2 l)) : ∀ L : List (List Nat), (L.map (fun l => c :: l)).filter (alw P d fr) = if b then (L.filter (alw P (d + 1) fr2)).map (fun l => c :: l) else []
  | [] => by
    cases b <;> rfl
  | x :: L => by
    have ih := filter_map_cons h L
    rw [List.map_cons, List.filter_cons, h x, ih]
    cases b
    · rfl
    · rw [List.filter_cons]
      by_cases hx : alw P (d + 1) fr2 x = true
      · simp [hx]
      · simp [hx]
theorem blk_filter {P : Pb} {d : Nat} {fr : Nat → Bool} {sub : Nat → List (List Nat)} : ∀ (j u : Nat), u + j ≤ P.1 → (blk (fun _ => true) sub u j).filter (alw P d fr) = blk (fun c => fr c && P.2.1 d c) (fun c => (sub c).filter (alw P (d + 1) (rm fr c))) u j
  | 0, u, _ => rfl
  | j + 1, u, h => by
    show (((if (true : Bool) then (sub u).map (fun l => u :: l) else []) ++ blk (fun _ => true) sub (u + 1) j)).filter (alw P d fr) = (if (fr u && P.2.1 d u) then ((sub u).filter (alw P (d + 1) (rm fr u))).map (fun l => u :: l) else []) ++ blk (fun c => fr c && P.2.1 d c) (fun c => (sub c).filter (alw P (d + 1) (rm fr c))) (u + 1) j
    rw [if_pos rfl, List.filter_append, blk_filter j (u + 1) (by omega), filter_map_cons (b := fr u && P.2.1 d u) (fr2 := rm fr u) (fun l => ?_)]
    show (if u = P.1 then alw P (d + 1) fr l else (fr u && P.2.1 d u) && alw P (d + 1) (rm fr u) l) = _
    rw [if_neg (by omega)]
theorem Al_En (P : Pb) : ∀ (k d : Nat) (fr : Nat → Bool), (Al P.1 k).filter (alw P d fr) = En P k d fr
  | 0, d, fr => rfl
  | k + 1, d, fr => by
    show (blk (fun _ => true) (fun _ => Al P.1 k) 0 P.1 ++ (Al P.1 k).map (fun l => P.1 :: l)).filter (alw P d fr) = blk (fun u => fr u && P.2.1 d u) (fun u => En P k (d + 1) (rm fr u)) 0 P.1 ++ (En P k (d + 1) fr).map (fun l => P.1 :: l)
    rw [List.filter_append, blk_filter P.1 0 (by omega), filter_map_cons (b := true) (fr2 := fr) (fun l => ?_), if_pos rfl, Al_En P k (d + 1) fr]
    · have : (fun c => (Al P.1 k).filter (alw P (d + 1) (rm fr c))) = fun c => En P k (d + 1) (rm fr c) := by
        funext c
        exact Al_En P k (d + 1) (rm fr c)
      rw [this]
    · show (if P.1 = P.1 then alw P (d + 1) fr l else (fr P.1 && P.2.1 d P.1) && alw P (d + 1) (rm fr P.1) l) = _
      rw [if_pos rfl, Bool.true_and]
theorem fold_filter (cost : List Nat → Int) (f : List Nat → Bool) : ∀ (l : List (List Nat)) (acc : Option (List Nat)), (l.filter f).foldl (stp cost) acc = l.foldl (fun acc a => if f a then stp cost acc a else acc) acc
  | [], _ => rfl
  | a :: l, acc => by
    rw [List.filter_cons]
    by_cases h : f a = true
    · rw [if_pos h]
      show (l.filter f).foldl (stp cost) (stp cost acc a) = l.foldl _ (if f a then stp cost acc a else acc)
      rw [if_pos h]
      exact fold_filter cost f l _
    · rw [if_neg h]
      show (l.filter f).foldl (stp cost) acc = l.foldl _ (if f a then stp cost acc a else acc)
      rw [if_neg h]
      exact fold_filter cost f l _
/-- to begin with none for all is the same as to begin with nothing -/
theorem En_none (P : Pb) (hw : ∀ d, 1 ≤ P.2.2.1 d) : ∀ (k d : Nat) (fr : Nat → Bool) (a : List Nat), a ∈ En P k d fr → a = List.replicate k P.1 ∨ cst P d a < cst P d (List.replicate k P.1)
  | 0, d, fr, a, h => Or.inl (List.mem_singleton.mp h)
  | k + 1, d, fr, a, h => by
    have hr : List.replicate (k + 1) P.1 = P.1 :: List.replicate k P.1 := rfl
    have cr : cst P d (List.replicate (k + 1) P.1) = 7 * (P.2.2.1 d : Int) + cst P (d + 1) (List.replicate k P.1) := by
      rw [hr]
      show (if P.1 = P.1 then 7 * (P.2.2.1 d : Int) else hc P d P.1) + _ = _
      rw [if_pos rfl]
    have hw1 := hw d
    rcases List.mem_append.mp h with h | h
    · obtain ⟨x, l, h1, h2, h3, h4, rfl⟩ := blk_mem _ _ h
      have cx : cst P d (x :: l) = hc P d x + cst P (d + 1) l := by
        show (if x = P.1 then 7 * (P.2.2.1 d : Int) else hc P d x) + cst P (d + 1) l = _
        rw [if_neg (by omega)]
      have hx : hc P d x ≤ 0 := by
        unfold hc
        split <;> omega
      refine Or.inr ?_
      rcases En_none P hw k (d + 1) _ l h4 with h | h
      · rw [cx, cr, h]; omega
      · rw [cx, cr]; omega
    · obtain ⟨l, hl, rfl⟩ := List.mem_map.mp h
      have cx : cst P d (P.1 :: l) = 7 * (P.2.2.1 d : Int) + cst P (d + 1) l := by
        show (if P.1 = P.1 then 7 * (P.2.2.1 d : Int) else hc P d P.1) + cst P (d + 1) l = _
        rw [if_pos rfl]
      rcases En_none P hw k (d + 1) _ l hl with h | h
      · exact Or.inl (by rw [h]; rfl)
      · refine Or.inr ?_
        rw [cx, cr]; omega
theorem fold_none (cost : List Nat → Int) (z : List Nat) : ∀ l : List (List Nat), l ≠ [] → (∀ a, a ∈ l → a = z ∨ cost a < cost z) → l.foldl (stp cost) (some z) = l.foldl (stp cost) none
  | [], h, _ => absurd rfl h
  | a :: l, _, h => by
    show l.foldl (stp cost) (if cost a < cost z then some a else some z) = l.foldl (stp cost) (some a)
    rcases h a (List.mem_cons_self ..) with h1 | h1
    · rw [h1, if_neg (Int.lt_irrefl _)]
    · rw [if_pos h1]
theorem En_ne (P : Pb) (k d : Nat) (fr : Nat → Bool) : En P k d fr ≠ [] := fun h => by
  have := (PT_best P k d fr).1.mem
  rw [h] at this
  cases this
theorem best_all (P : Pb) (hw : ∀ d, 1 ≤ P.2.2.1 d) (k : Nat) (fr : Nat → Bool) : (En P k 0 fr).foldl (stp (cst P 0)) none = some (PT P k 0 fr) ∧ (Al P.1 k).foldl (fun acc a => if alw P 0 fr a then stp (cst P 0) acc a else acc) (some (List.replicate k P.1)) = some (PT P k 0 fr) := by
  have h := (PT_best P k 0 fr).1.fold
  refine ⟨h, ?_⟩
  rw [← fold_filter, Al_En, fold_none _ _ _ (En_ne P k 0 fr) (En_none P hw k 0 fr)]
  exact h
