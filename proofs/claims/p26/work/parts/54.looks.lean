/-! the reference's look at one allocation -/
theorem nar_b (b : Bool) : vp_nar .boolean (bI b) = bI b := by
  cases b <;> decide
def mayA (A : Ab) (d u : Nat) : Bool := decide (rsn A u d = iN 0) && (decide (A.1 49 d 0 = nO) || decide (A.1 49 d 0 = iN u))
def homA (A : Ab) (d u : Nat) : Bool := decide (A.1 45 d 0 = iN 0) && soonS A u
def PA (A : Ab) : Pb := (nU A, mayA A, fun d => if d < nD A then (A.1 48 d 0).toNatClampNeg else 1, homA A)
theorem PA_w {A : Ab} (G : Gd A) {d : Nat} (hd : d < nD A) : A.1 48 d 0 = iN ((PA A).2.2.1 d) ∧ 1 ≤ (PA A).2.2.1 d ∧ (PA A).2.2.1 d ≤ 100 := by
  obtain ⟨w, h1, h2, h3⟩ := (G.2.2.2.2.1 d hd).2
  have e : (PA A).2.2.1 d = w := by
    show (if d < nD A then (A.1 48 d 0).toNatClampNeg else 1) = w
    rw [if_pos hd, h3, iN_clamp (by omega)]
  rw [e]
  exact ⟨h3, h1, h2⟩
theorem PA_w1 {A : Ab} (G : Gd A) (d : Nat) : 1 ≤ (PA A).2.2.1 d ∧ (PA A).2.2.1 d ≤ 100 := by
  by_cases h : d < nD A
  · exact (PA_w G h).2
  · have e : (PA A).2.2.1 d = 1 := if_neg h
    rw [e]
    decide
def chv (n c : Nat) : Int32 := if c = n then nO else iN c
/-- what the reference has noted of the best so far -/
def Acc (A : Ab) (σ : Wd) (acc : Option (List Nat)) : Prop := match acc with
  | none => σ.1 30 0 37 = nO
  | some b => b.length = nD A ∧ (∀ c, c ∈ b → c ≤ nU A) ∧ σ.1 30 0 37 = iN (lk (PA A) 0 b) ∧ σ.1 30 0 38 = iN (hm (PA A) 0 b) ∧ ∀ d c, b[d]? = some c → σ.1 56 0 d = chv (nU A) c
/-- what is tried -/
def Trd (σ : Wd) (l : List Nat) : Prop := ∀ d c, l[d]? = some c → σ.1 57 0 d = iN c
theorem lk_app (P : Pb) (m : List Nat) : ∀ (l : List Nat) (d : Nat), lk P d (l ++ m) = lk P d l + lk P (d + l.length) m
  | [], d => by
    show lk P d m = 0 + lk P (d + 0) m
    rw [Nat.zero_add, Nat.add_zero]
  | c :: l, d => by
    show (if c = P.1 then P.2.2.1 d else 0) + lk P (d + 1) (l ++ m) = (if c = P.1 then P.2.2.1 d else 0) + lk P (d + 1) l + lk P (d + (l.length + 1)) m
    rw [lk_app P m l (d + 1), ← Nat.add_assoc, show d + 1 + l.length = d + (l.length + 1) from by omega]
theorem hm_app (P : Pb) (m : List Nat) : ∀ (l : List Nat) (d : Nat), hm P d (l ++ m) = hm P d l + hm P (d + l.length) m
  | [], d => by
    show hm P d m = 0 + hm P (d + 0) m
    rw [Nat.zero_add, Nat.add_zero]
  | c :: l, d => by
    show (if ¬ c = P.1 ∧ P.2.2.2 d c = true then 1 else 0) + hm P (d + 1) (l ++ m) = (if ¬ c = P.1 ∧ P.2.2.2 d c = true then 1 else 0) + hm P (d + 1) l + hm P (d + (l.length + 1)) m
    rw [hm_app P m l (d + 1), ← Nat.add_assoc, show d + 1 + l.length = d + (l.length + 1) from by omega]
