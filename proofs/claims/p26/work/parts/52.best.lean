/-! the best allocation, said once: lists of choices, a UNIT or (n) none; P = (n, who may, weights, who counts for the homing) -/
abbrev Pb : Type := Nat × (Nat → Nat → Bool) × (Nat → Nat) × (Nat → Nat → Bool)
def rm (fr : Nat → Bool) (u : Nat) : Nat → Bool := fun x => fr x && decide (¬ x = u)
/-- the blocks of a DIAGRAM's choices, from u on, j of them -/
def blk (ok : Nat → Bool) (sub : Nat → List (List Nat)) : Nat → Nat → List (List Nat)
  | _, 0 => []
  | u, j + 1 => (if ok u then (sub u).map (fun l => u :: l) else []) ++ blk ok sub (u + 1) j
def En (P : Pb) : Nat → Nat → (Nat → Bool) → List (List Nat)
  | 0, _, _ => [[]]
  | k + 1, d, fr => blk (fun u => fr u && P.2.1 d u) (fun u => En P k (d + 1) (rm fr u)) 0 P.1 ++ (En P k (d + 1) fr).map (fun l => P.1 :: l)
def hc (P : Pb) (d u : Nat) : Int := if P.2.2.2 d u then -1 else 0
def cst (P : Pb) : Nat → List Nat → Int
  | _, [] => 0
  | d, c :: l => (if c = P.1 then 7 * (P.2.2.1 d : Int) else hc P d c) + cst P (d + 1) l
def stp (cost : List Nat → Int) (acc : Option (List Nat)) (a : List Nat) : Option (List Nat) := match acc with
  | none => some a
  | some b => if cost a < cost b then some a else some b
/-- the first least one -/
def FM (cost : List Nat → Int) (l : List (List Nat)) (r : List Nat) : Prop := ∃ l1 l2, l = l1 ++ r :: l2 ∧ (∀ a, a ∈ l1 → cost r < cost a) ∧ ∀ a, a ∈ l2 → cost r ≤ cost a
theorem FM.ge {cost : List Nat → Int} {l : List (List Nat)} {r : List Nat} (h : FM cost l r) : ∀ a, a ∈ l → cost r ≤ cost a := by
  obtain ⟨l1, l2, rfl, h1, h2⟩ := h
  intro a ha
  rcases List.mem_append.mp ha with h | h
  · exact Int.le_of_lt (h1 a h)
  · rcases List.mem_cons.mp h with rfl | h
    · exact Int.le_refl _
    · exact h2 a h
theorem FM.mem {cost : List Nat → Int} {l : List (List Nat)} {r : List Nat} (h : FM cost l r) : r ∈ l := by
  obtain ⟨l1, l2, rfl, h1, h2⟩ := h
  exact List.mem_append_right _ (List.mem_cons_self ..)
theorem FM.skip {cost : List Nat → Int} {l m : List (List Nat)} {r : List Nat} (h : FM cost m r) (hl : ∀ a, a ∈ l → cost r < cost a) : FM cost (l ++ m) r := by
  obtain ⟨l1, l2, rfl, h1, h2⟩ := h
  refine ⟨l ++ l1, l2, by rw [List.append_assoc], fun a ha => ?_, h2⟩
  rcases List.mem_append.mp ha with h | h
  · exact hl a h
  · exact h1 a h
theorem FM.take {cost : List Nat → Int} {l m : List (List Nat)} {r : List Nat} (h : FM cost l r) (hm : ∀ a, a ∈ m → cost r ≤ cost a) : FM cost (l ++ m) r := by
  obtain ⟨l1, l2, rfl, h1, h2⟩ := h
  refine ⟨l1, l2 ++ m, by rw [List.append_assoc]; rfl, h1, fun a ha => ?_⟩
  rcases List.mem_append.mp ha with h | h
  · exact h2 a h
  · exact hm a h
theorem FM.map {P : Pb} {d c : Nat} {l : List (List Nat)} {r : List Nat} (h : FM (cst P (d + 1)) l r) : FM (cst P d) (l.map (fun x => c :: x)) (c :: r) := by
  obtain ⟨l1, l2, rfl, h1, h2⟩ := h
  refine ⟨l1.map (fun x => c :: x), l2.map (fun x => c :: x), by simp, fun a ha => ?_, fun a ha => ?_⟩
  · obtain ⟨b, hb, rfl⟩ := List.mem_map.mp ha
    have := h1 b hb
    show (if c = P.1 then 7 * (P.2.2.1 d : Int) else hc P d c) + cst P (d + 1) r < (if c = P.1 then 7 * (P.2.2.1 d : Int) else hc P d c) + cst P (d + 1) b
    omega
  · obtain ⟨b, hb, rfl⟩ := List.mem_map.mp ha
    have := h2 b hb
    show (if c = P.1 then 7 * (P.2.2.1 d : Int) else hc P d c) + cst P (d + 1) r ≤ (if c = P.1 then 7 * (P.2.2.1 d : Int) else hc P d c) + cst P (d + 1) b
    omega
theorem fold_ge (cost : List Nat → Int) (r : List Nat) : ∀ l : List (List Nat), (∀ a, a ∈ l → cost r ≤ cost a) → l.foldl (stp cost) (some r) = some r
  | [], _ => rfl
  | a :: l, h => by
    have h1 := h a (List.mem_cons_self ..)
    show l.foldl (stp cost) (if cost a < cost r then some a else some r) = some r
    rw [if_neg (by omega)]
    exact fold_ge cost r l (fun b hb => h b (List.mem_cons_of_mem _ hb))
theorem fold_FM1 (cost : List Nat → Int) (r : List Nat) (m : List (List Nat)) (hm : ∀ a, a ∈ m → cost r ≤ cost a) : ∀ (l : List (List Nat)) (acc : Option (List Nat)), (∀ a, a ∈ l → cost r < cost a) → (∀ b, acc = some b → cost r < cost b) → (l ++ r :: m).foldl (stp cost) acc = some r
  | [], none, _, _ => fold_ge cost r m hm
  | [], some b, _, h => by
    show m.foldl (stp cost) (if cost r < cost b then some r else some b) = some r
    rw [if_pos (h b rfl)]
    exact fold_ge cost r m hm
  | a :: l, none, h, _ => fold_FM1 cost r m hm l (some a) (fun b hb => h b (List.mem_cons_of_mem _ hb)) (fun b hb => by cases hb; exact h a (List.mem_cons_self ..))
  | a :: l, some b, h, h2 => by
    show (l ++ r :: m).foldl (stp cost) (if cost a < cost b then some a else some b) = some r
    by_cases hc : cost a < cost b
    · rw [if_pos hc]
      exact fold_FM1 cost r m hm l (some a) (fun b hb => h b (List.mem_cons_of_mem _ hb)) (fun b hb => by cases hb; exact h a (List.mem_cons_self ..))
    · rw [if_neg hc]
      exact fold_FM1 cost r m hm l (some b) (fun b hb => h b (List.mem_cons_of_mem _ hb)) h2
theorem FM.fold {cost : List Nat → Int} {l : List (List Nat)} {r : List Nat} (h : FM cost l r) : l.foldl (stp cost) none = some r := by
  obtain ⟨l1, l2, rfl, h1, h2⟩ := h
  exact fold_FM1 cost r l2 h2 l1 none h1 (fun b hb => by cases hb)
/-! part by part -/
def LCl (ok : Nat → Bool) (val : Nat → Int) : Int → Nat → Nat → Int
  | acc, _, 0 => acc
  | acc, u, j + 1 => LCl ok val (if ok u then (if val u < acc then val u else acc) else acc) (u + 1) j
def Lq (P : Pb) : Nat → Nat → (Nat → Bool) → Int
  | 0, _, _ => 0
  | k + 1, d, fr => LCl (fun u => fr u && P.2.1 d u) (fun u => hc P d u + Lq P k (d + 1) (rm fr u)) (7 * (P.2.2.1 d : Int) + Lq P k (d + 1) fr) 0 P.1
def pck (n : Nat) (ok : Nat → Bool) (val : Nat → Int) (m : Int) : Nat → Nat → Nat
  | _, 0 => n
  | u, j + 1 => if ok u = true ∧ val u = m then u else pck n ok val m (u + 1) j
def rm' (n : Nat) (fr : Nat → Bool) (c : Nat) : Nat → Bool := if c = n then fr else rm fr c
def ch1 (P : Pb) (k d : Nat) (fr : Nat → Bool) : Nat := pck P.1 (fun u => fr u && P.2.1 d u) (fun u => hc P d u + Lq P k (d + 1) (rm fr u)) (Lq P (k + 1) d fr) 0 P.1
def PT (P : Pb) : Nat → Nat → (Nat → Bool) → List Nat
  | 0, _, _ => []
  | k + 1, d, fr => ch1 P k d fr :: PT P k (d + 1) (rm' P.1 fr (ch1 P k d fr))
theorem LCl_le (ok : Nat → Bool) (val : Nat → Int) : ∀ (j u : Nat) (acc : Int), LCl ok val acc u j ≤ acc ∧ (∀ x, u ≤ x → x < u + j → ok x = true → LCl ok val acc u j ≤ val x) ∧ (LCl ok val acc u j = acc ∨ ∃ x, u ≤ x ∧ x < u + j ∧ ok x = true ∧ LCl ok val acc u j = val x)
  | 0, u, acc => ⟨Int.le_refl _, fun x h1 h2 => by omega, Or.inl rfl⟩
  | j + 1, u, acc => by
    show LCl ok val (if ok u then (if val u < acc then val u else acc) else acc) (u + 1) j ≤ acc ∧ (∀ x, u ≤ x → x < u + (j + 1) → ok x = true → LCl ok val (if ok u then (if val u < acc then val u else acc) else acc) (u + 1) j ≤ val x) ∧ (LCl ok val (if ok u then (if val u < acc then val u else acc) else acc) (u + 1) j = acc ∨ ∃ x, u ≤ x ∧ x < u + (j + 1) ∧ ok x = true ∧ LCl ok val (if ok u then (if val u < acc then val u else acc) else acc) (u + 1) j = val x)
    obtain ⟨h1, h2, h3⟩ := LCl_le ok val j (u + 1) (if ok u then (if val u < acc then val u else acc) else acc)
    have e1 : (if ok u then (if val u < acc then val u else acc) else acc) ≤ acc := by
      split
      · split <;> omega
      · exact Int.le_refl _
    have e2 : ok u = true → (if ok u then (if val u < acc then val u else acc) else acc) ≤ val u := fun h => by
      rw [if_pos h]
      split <;> omega
    have e3 : (if ok u then (if val u < acc then val u else acc) else acc) = acc ∨ (ok u = true ∧ (if ok u then (if val u < acc then val u else acc) else acc) = val u) := by
      by_cases h : ok u = true
      · rw [if_pos h]
        split
        · exact Or.inr ⟨h, rfl⟩
        · exact Or.inl rfl
      · rw [if_neg h]
        exact Or.inl rfl
    refine ⟨Int.le_trans h1 e1, fun x hx1 hx2 hx => ?_, ?_⟩
    · by_cases hxu : x = u
      · rw [hxu]
        rw [hxu] at hx
        exact Int.le_trans h1 (e2 hx)
      · exact h2 x (by omega) (by omega) hx
    · rcases h3 with h3 | ⟨x, a, b, c, e⟩
      · rcases e3 with e3 | ⟨q1, q2⟩
        · exact Or.inl (h3.trans e3)
        · exact Or.inr ⟨u, Nat.le_refl _, by omega, q1, h3.trans q2⟩
      · exact Or.inr ⟨x, by omega, by omega, c, e⟩
theorem pck_or (n : Nat) (ok : Nat → Bool) (val : Nat → Int) (m : Int) : ∀ (j u : Nat), (pck n ok val m u j = n ∧ ∀ x, u ≤ x → x < u + j → ok x = true → ¬ val x = m) ∨ (u ≤ pck n ok val m u j ∧ pck n ok val m u j < u + j ∧ ok (pck n ok val m u j) = true ∧ val (pck n ok val m u j) = m ∧ ∀ x, u ≤ x → x < pck n ok val m u j → ok x = true → ¬ val x = m)
  | 0, u => Or.inl ⟨rfl, fun x h1 h2 => by omega⟩
  | j + 1, u => by
    have e : pck n ok val m u (j + 1) = if ok u = true ∧ val u = m then u else pck n ok val m (u + 1) j := rfl
    rw [e]
    by_cases h : ok u = true ∧ val u = m
    · rw [if_pos h]
      exact Or.inr ⟨Nat.le_refl _, by omega, h.1, h.2, fun x h1 h2 => by omega⟩
    · rw [if_neg h]
      rcases pck_or n ok val m j (u + 1) with ⟨h1, h2⟩ | ⟨h1, h2, h3, h4, h5⟩
      · refine Or.inl ⟨h1, fun x a b c => ?_⟩
        by_cases hxu : x = u
        · rw [hxu] at c ⊢
          exact fun z => h ⟨c, z⟩
        · exact h2 x (by omega) (by omega) c
      · refine Or.inr ⟨by omega, by omega, h3, h4, fun x a b c => ?_⟩
        by_cases hxu : x = u
        · rw [hxu] at c ⊢
          exact fun z => h ⟨c, z⟩
        · exact h5 x (by omega) b c
theorem blk_mem {ok : Nat → Bool} {sub : Nat → List (List Nat)} {a : List Nat} : ∀ (j u : Nat), a ∈ blk ok sub u j → ∃ x l, u ≤ x ∧ x < u + j ∧ ok x = true ∧ l ∈ sub x ∧ a = x :: l
  | 0, u, h => by cases h
  | j + 1, u, h => by
    rcases List.mem_append.mp h with h | h
    · by_cases ho : ok u = true
      · rw [if_pos ho] at h
        obtain ⟨l, hl, rfl⟩ := List.mem_map.mp h
        exact ⟨u, l, Nat.le_refl _, by omega, ho, hl, rfl⟩
      · rw [if_neg ho] at h
        cases h
    · obtain ⟨x, l, h1, h2, h3, h4, h5⟩ := blk_mem j (u + 1) h
      exact ⟨x, l, by omega, by omega, h3, h4, h5⟩
/-- the block of c, and what lies ahead of it and behind it -/
theorem blk_split {ok : Nat → Bool} {sub : Nat → List (List Nat)} {c : Nat} (hc : ok c = true) : ∀ (j u : Nat), u ≤ c → c < u + j → ∃ b1 b2, blk ok sub u j = b1 ++ ((sub c).map (fun l => c :: l) ++ b2) ∧ (∀ a, a ∈ b1 → ∃ x l, u ≤ x ∧ x < c ∧ ok x = true ∧ l ∈ sub x ∧ a = x :: l) ∧ (∀ a, a ∈ b2 → ∃ x l, c < x ∧ x < u + j ∧ ok x = true ∧ l ∈ sub x ∧ a = x :: l)
  | 0, u, h1, h2 => by omega
  | j + 1, u, h1, h2 => by
    by_cases h : u = c
    · subst h
      refine ⟨[], blk ok sub (u + 1) j, ?_, fun a ha => (by cases ha), fun a ha => ?_⟩
      · show (if ok u then (sub u).map (fun l => u :: l) else []) ++ blk ok sub (u + 1) j = _
        rw [if_pos hc]
        rfl
      · obtain ⟨x, l, q1, q2, q3, q4, q5⟩ := blk_mem j (u + 1) ha
        exact ⟨x, l, by omega, by omega, q3, q4, q5⟩
    · obtain ⟨b1, b2, e, p1, p2⟩ := blk_split hc j (u + 1) (by omega) (by omega)
      refine ⟨(if ok u then (sub u).map (fun l => u :: l) else []) ++ b1, b2, ?_, fun a ha => ?_, fun a ha => ?_⟩
      · show (if ok u then (sub u).map (fun l => u :: l) else []) ++ blk ok sub (u + 1) j = _
        rw [e, List.append_assoc]
      · rcases List.mem_append.mp ha with ha | ha
        · by_cases ho : ok u = true
          · rw [if_pos ho] at ha
            obtain ⟨l, hl, rfl⟩ := List.mem_map.mp ha
            exact ⟨u, l, Nat.le_refl _, by omega, ho, hl, rfl⟩
          · rw [if_neg ho] at ha
            cases ha
        · obtain ⟨x, l, q1, q2, q3, q4, q5⟩ := p1 a ha
          exact ⟨x, l, by omega, q2, q3, q4, q5⟩
      · obtain ⟨x, l, q1, q2, q3, q4, q5⟩ := p2 a ha
        exact ⟨x, l, q1, by omega, q3, q4, q5⟩
theorem PT_best (P : Pb) : ∀ (k d : Nat) (fr : Nat → Bool), FM (cst P d) (En P k d fr) (PT P k d fr) ∧ cst P d (PT P k d fr) = Lq P k d fr
  | 0, d, fr => ⟨⟨[], [], rfl, fun a h => (by cases h), fun a h => (by cases h)⟩, rfl⟩
  | k + 1, d, fr => by
    have ih := PT_best P k (d + 1)
    have ge : ∀ fr a, a ∈ En P k (d + 1) fr → Lq P k (d + 1) fr ≤ cst P (d + 1) a := fun fr a ha => by
      have := (ih fr).1.ge a ha
      rw [(ih fr).2] at this
      exact this
    obtain ⟨m1, m2, m3⟩ := LCl_le (fun u => fr u && P.2.1 d u) (fun u => hc P d u + Lq P k (d + 1) (rm fr u)) P.1 0 (7 * (P.2.2.1 d : Int) + Lq P k (d + 1) fr)
    change Lq P (k + 1) d fr ≤ _ at m1
    change ∀ x, 0 ≤ x → x < 0 + P.1 → _ → Lq P (k + 1) d fr ≤ _ at m2
    change Lq P (k + 1) d fr = _ ∨ ∃ x, 0 ≤ x ∧ x < 0 + P.1 ∧ _ ∧ Lq P (k + 1) d fr = _ at m3
    have cu : ∀ x l, x < P.1 → cst P d (x :: l) = hc P d x + cst P (d + 1) l := fun x l hx => by
      show (if x = P.1 then 7 * (P.2.2.1 d : Int) else hc P d x) + cst P (d + 1) l = _
      rw [if_neg (by omega)]
    have cn : ∀ l, cst P d (P.1 :: l) = 7 * (P.2.2.1 d : Int) + cst P (d + 1) l := fun l => by
      show (if P.1 = P.1 then 7 * (P.2.2.1 d : Int) else hc P d P.1) + cst P (d + 1) l = _
      rw [if_pos rfl]
    have hPT : PT P (k + 1) d fr = ch1 P k d fr :: PT P k (d + 1) (rm' P.1 fr (ch1 P k d fr)) := rfl
    have hEn : En P (k + 1) d fr = blk (fun u => fr u && P.2.1 d u) (fun u => En P k (d + 1) (rm fr u)) 0 P.1 ++ (En P k (d + 1) fr).map (fun l => P.1 :: l) := rfl
    rcases pck_or P.1 (fun u => fr u && P.2.1 d u) (fun u => hc P d u + Lq P k (d + 1) (rm fr u)) (Lq P (k + 1) d fr) P.1 0 with ⟨h1, h2⟩ | ⟨h1, h2, h3, h4, h5⟩
    · change ch1 P k d fr = P.1 at h1
      have hr : rm' P.1 fr P.1 = fr := if_pos rfl
      rw [hPT, h1, hr]
      have hlc : Lq P (k + 1) d fr = 7 * (P.2.2.1 d : Int) + Lq P k (d + 1) fr := by
        rcases m3 with h | ⟨x, a, b, c, e⟩
        · exact h
        · exact absurd e.symm (h2 x a b c)
      have hc0 : cst P d (P.1 :: PT P k (d + 1) fr) = Lq P (k + 1) d fr := by
        rw [cn, (ih fr).2, hlc]
      refine ⟨?_, hc0⟩
      rw [hEn]
      refine FM.skip (FM.map (ih fr).1) (fun a ha => ?_)
      obtain ⟨x, l, q1, q2, q3, q4, rfl⟩ := blk_mem _ _ ha
      rw [hc0, cu x l (by omega)]
      have z1 := m2 x q1 q2 q3
      have z2 := h2 x q1 q2 q3
      have z3 := ge _ l q4
      omega
    · change ch1 P k d fr < 0 + P.1 at h2
      change 0 ≤ ch1 P k d fr at h1
      change (fr (ch1 P k d fr) && P.2.1 d (ch1 P k d fr)) = true at h3
      change hc P d (ch1 P k d fr) + Lq P k (d + 1) (rm fr (ch1 P k d fr)) = Lq P (k + 1) d fr at h4
      change ∀ x, 0 ≤ x → x < ch1 P k d fr → _ → _ at h5
      have hr : rm' P.1 fr (ch1 P k d fr) = rm fr (ch1 P k d fr) := if_neg (by omega)
      rw [hPT, hr]
      have hc0 : cst P d (ch1 P k d fr :: PT P k (d + 1) (rm fr (ch1 P k d fr))) = Lq P (k + 1) d fr := by
        rw [cu _ _ (by omega), (ih _).2, h4]
      refine ⟨?_, hc0⟩
      obtain ⟨b1, b2, e, p1, p2⟩ := blk_split (ok := fun u => fr u && P.2.1 d u) (sub := fun u => En P k (d + 1) (rm fr u)) h3 P.1 0 h1 h2
      rw [hEn, e, List.append_assoc, List.append_assoc]
      refine FM.skip (FM.take (FM.map (ih _).1) (fun a ha => ?_)) (fun a ha => ?_)
      · rw [hc0]
        rcases List.mem_append.mp ha with ha | ha
        · obtain ⟨x, l, q1, q2, q3, q4, rfl⟩ := p2 a ha
          rw [cu x l (by omega)]
          have z1 := m2 x (Nat.zero_le _) q2 q3
          have z3 := ge _ l q4
          omega
        · obtain ⟨l, hl, rfl⟩ := List.mem_map.mp ha
          rw [cn]
          have z3 := ge _ l hl
          omega
      · obtain ⟨x, l, q1, q2, q3, q4, rfl⟩ := p1 a ha
        rw [hc0, cu x l (by omega)]
        have z1 := m2 x q1 (by omega) q3
        have z2 := h5 x q1 q2 q3
        have z3 := ge _ l q4
        omega
