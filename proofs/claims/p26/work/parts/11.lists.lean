/-! the lists' rows of elements -/
def wp (σ : Wd) (i j : Nat) (c : Nat) : Wd := (σ.1, fun i' j' => if i' = i ∧ j' = j then c else σ.2.1 i' j', σ.2.2)
/-- n elements are copied from a to b within the row i -/
def wcp (σ : Wd) (i a b n : Nat) : Wd := (σ.1, fun i' j' => if i' = i then (if b ≤ j' ∧ j' < b + n then σ.2.1 i (a + (j' - b)) else σ.2.1 i j') else σ.2.1 i' j', σ.2.2)
theorem cellv_el {X : Xt} {ad : Ad} {σ τ : Wd} {i : Nat} (h1 : σ.1 = τ.1) (h3 : σ.2.2 = τ.2.2) (h2 : ∀ i', i' ≠ i → σ.2.1 i' = τ.2.1 i') {t' i' : Nat} (hn : ¬ (t' = 27 ∧ i' = i)) : cellv X ad σ t' i' = cellv X ad τ t' i' := by
  by_cases ht : t' = 27
  · subst ht
    have hi : i' ≠ i := fun z => hn ⟨rfl, z⟩
    rw [cell_27, cell_27]
    unfold elF
    rw [h2 i' hi]
  · unfold cellv elA
    split <;> first | (exact absurd rfl ht) | simp only [h1, h3]
section LBK
variable {α : Type} {X : Xt} {fin : Ad → Prop} {cc : ByteArray} {nL : Nat} {own : String} {rt : Option FieldType} {fr lo : Nat} {val : α → Option Value} {kc cs : Nat × Nat} {ad : Ad} {σ : Wd} {pc : Nat} {lv : List (Nat × Value)} {st : List Value} {f f1 f2 : Option ((α ⊕ String) × Wd)}
theorem r_getfS {t i ci index N : Nat} {C ref : String} {T : u_T} {fs : List Value} {v : Value} (k : Nat) (hl : lvp σ t i) (hc : cellv X ad σ t i = .inr (ci, fs)) (hci : vwCl[ci]? = some (C, T, N)) (hkN : k < N) (hin : ∀ w ∈ u_ws C T N, w ∈ G_) (hlink : Cond.fieldLink own index ref (T k).2.1 (T k).2.2.1 ∈ G_) (hsame : Cond.sameField ref (T k).1 (T k).2.1 (T k).2.2.1 ∈ G_) (hv : fs[k]? = some v) (hd : decode cc pc = .ok (.getfield index, 3)) (kk : Bk X fin cc nL own rt fr lo val kc cs ad σ (pc + 3) lv (v :: st) f) : Bk X fin cc nL own rt fr lo val kc cs ad σ pc lv (.ref (ad t i) :: st) f := by
  intro res σ' h p e s m args below meth c B H locs ls hH hS hl9
  have hP : va_P X.2.1 vwCl [(ad t i, .inr (ci, fs))] H := va_P1 (by rw [← hc]; exact (hH.1 t i hl).1)
  exact va_get B.1 B.2.1 (Ts := G_) B.2.2.2.2.1 hin B.2.2.2.1 B.2.2.2.2.2.2.2.2.1 hP 0 rfl hci k hkN (B.2.2.2.2.1 _ hlink) (fun x z => u_same (B.2.2.2.2.1 _ hsame) x z) hv hd (kk res σ' h p e s m args below meth c B H locs ls hH hS hl9)
theorem r_putfS {t i ci index N : Nat} {C ref : String} {T : u_T} {fs : List Value} {v : Int32} (k : Nat) (ty : Nat → FieldType) (hty : ∀ k, k < N → parseFieldDescriptor (T k).2.2.1 = some (ty k)) (hnm : ∀ a, a < N → ∀ b, b < N → a ≠ b → (T a).2.1 ≠ (T b).2.1) (hl : lvp σ t i) (hc : cellv X ad σ t i = .inr (ci, fs)) (hc1 : cellv X ad (wr σ t i k v) t i = .inr (ci, fs.set k (.int v))) (hci : vwCl[ci]? = some (C, T, N)) (hkN : k < N) (hkf : k < fs.length) (hin : ∀ w ∈ u_ws C T N, w ∈ G_) (hlink : Cond.fieldLink own index ref (T k).2.1 (T k).2.2.1 ∈ G_) (hsame : Cond.sameField ref (T k).1 (T k).2.1 (T k).2.2.1 ∈ G_) (hfin : (T k).2.2.2 = false) (hn : narrow (ty k) (.int v) = .int v) (hfit : fits (ty k) (.int v) = true) (hd : decode cc pc = .ok (.putfield index, 3)) (kk : Bk X fin cc nL own rt fr lo val kc cs ad (wr σ t i k v) (pc + 3) lv st f) : Bk X fin cc nL own rt fr lo val kc cs ad σ pc lv (.int v :: .ref (ad t i) :: st) f := by
  intro res σ' h p e s m args below meth c B H locs ls hH hS hl9
  have hts := B.2.2.2.2.1
  have hK := B.2.2.2.2.2.2.2.2.1
  have hat : va_at X.2.1 vwCl (ad t i, .inr (ci, fs)) H := by rw [← hc]; exact (hH.1 t i hl).1
  have hap := va_apart (own := own) hts hin ty hty hnm hK hci
  obtain ⟨r, h1, cell, q1, q2, q3, q4⟩ := hat
  have hr : r = (C, T, N) := Option.some.inj (h1.symm.trans hci)
  subst hr
  obtain ⟨hS2, hfc, kC, hkC, hkind⟩ := hK.1 ci _ hci
  obtain ⟨cf, kf, fi, fl, hi, hsl⟩ := hS2 k hkN
  have hlay := hts _ (hin _ (u_in_lay hkN))
  unfold u_lay at hlay
  rw [if_neg (by rw [hfin]; decide)] at hlay
  have hst := (u_facts hfc hkC (u_lays hts hin hkN) hi).1
  have h6 := u_store hfc hkC hkind hlay hi (hty k hkN) hn hfit
  refine W.putK B.1 B.2.1 (f := fl) ⟨B.2.2.2.1, hts _ hlink, ⟨_, _, _, u_same (hts _ hsame) _ hi⟩, hst⟩ (by rw [q2]; exact h6) q1 q3 (by rw [hsl]; exact k2_hasslot (q4 k hkN)) rfl rfl hd fun H' e1 e2 e3 => ?_
  rw [hsl] at e1 ⊢
  exact kk res σ' h p e s m args below meth c B H' _ ls (hH.wr hl (e := .inr (ci, fs.set k (.int v))) ⟨_, hci, t_OB.to (V := updV (vp_V fs) k (.int v)) ⟨_, e1, q2, q3, t_set q4 hap hkN (.int v)⟩ (fun j _ => vp_updV_set hkf (.int v) j)⟩ e3 hc1) (hS.put e2 e3 (hH.1 t i hl).2) hl9
theorem elA_on {i : Nat} (h : i < 8 ∧ σ.2.2 (20 + i) ≠ 0) : elA X ad σ i = ad 27 i := if_neg h.2
theorem r_getE {i index : Nat} (h : i < 8 ∧ σ.2.2 (20 + i) ≠ 0) (hl : lvp σ 1 i) (hlink : Cond.fieldLink own index (TJx4a65c 1).1 (TJx4a65c 1).2.1 (TJx4a65c 1).2.2.1 ∈ G_) (hd : decode cc pc = .ok (.getfield index, 3)) (kk : Bk X fin cc nL own rt fr lo val kc cs ad σ (pc + 3) lv (.ref (ad 27 i) :: st) f) : Bk X fin cc nL own rt fr lo val kc cs ad σ pc lv (.ref (ad 1 i) :: st) f := by
  refine r_getf 1 hl (cell_1 _ _ _ _) rfl (by decide) in_0 hlink rfl hd ?_
  rw [elA_on h]
  exact kk
theorem r_aaloadE {i : Nat} {j : Int32} (h : i < 8 ∧ σ.2.2 (20 + i) ≠ 0) (hin : inb j 10) (hne : σ.2.1 i j.toNatClampNeg ≠ 0) (hd : decode cc pc = .ok (.aaload, 1)) (kk : Bk X fin cc nL own rt fr lo val kc cs ad σ (pc + 1) lv (.ref (ad (et i) (σ.2.1 i j.toNatClampNeg - 1)) :: st) f) : Bk X fin cc nL own rt fr lo val kc cs ad σ pc lv (.int j :: .ref (ad 27 i) :: st) f :=
  r_aaload _ (lvl_e h) (cell_27 _ _ _ _) rfl hin (if_neg hne) hd kk
theorem r_aastoreN {i : Nat} {j : Int32} (h : i < 8 ∧ σ.2.2 (20 + i) ≠ 0) (hin : inb j 10) (hd : decode cc pc = .ok (.aastore, 1)) (kk : Bk X fin cc nL own rt fr lo val kc cs ad (wp σ i j.toNatClampNeg 0) (pc + 1) lv st f) : Bk X fin cc nL own rt fr lo val kc cs ad σ pc lv (.null :: .int j :: .ref (ad 27 i) :: st) f := by
  intro res σ' hf p e s m args below meth c B H locs ls hH hS hl9
  have hl := lvl_e h
  have hP : va_at X.2.1 vwCl (ad 27 i, .inl (X.2.2.1 5, 10, .inr (.inr (.inr (.inr (elF ad σ i)))))) H := by rw [← cell_27]; exact (hH.1 27 i hl).1
  refine va_WaastN (C := "java/lang/Object") B.1 B.2.1 hP ((B.2.2.2.2.2.2.2.2.1.2 5 (X.2.2.1 5, .object "java/lang/Object") rfl).1 10 (fun j => va_rf (elF ad σ i j))) (fun h => by cases h) (by show ¬ (j < 0 ∨ (arrV _ _ _).slots.size ≤ _); rw [arrV_size]; exact inb_vp hin) rfl rfl hd fun H1 e1 z oq => ?_
  refine kk res σ' hf p e s m args below meth c B H1 _ ls (hH.put hl (e := .inl (X.2.2.1 5, 10, .inr (.inr (.inr (.inr (va_up (elF ad σ i) j.toNatClampNeg none)))))) ?_ oq ?_ (fun t' i' hn => cellv_el (σ := wp σ i j.toNatClampNeg 0) (τ := σ) (i := i) rfl rfl (fun a ha => by funext b; simp [wp, ha]) hn) (fun _ _ z => z)) (hS.put z oq (hH.1 27 i hl).2) hl9
  · show H1[ad 27 i]? = some (vp_cell _ _)
    rw [e1]
    rw [vp_cell_q, vp_cell_q, arrV_store]
    congr 2
    funext q
    by_cases hq : q = j.toNatClampNeg
    · subst hq
      simp [updV, va_up, va_rf]
    · simp [updV, va_up, hq]
  · rw [cell_27]
    refine congrArg (fun z => (Sum.inl (X.2.2.1 5, 10, .inr (.inr (.inr (.inr z)))) : va_E)) ?_
    funext q
    by_cases hq : q = j.toNatClampNeg
    · subst hq
      simp [elF, wp, va_up]
    · simp [elF, wp, va_up, hq]
theorem r_aastoreE {i v ci N : Nat} {j : Int32} {C : String} {T : u_T} {fs : List Value} (h : i < 8 ∧ σ.2.2 (20 + i) ≠ 0) (hin : inb j 10) (hlv : lvp σ (et i) v) (hcv : cellv X ad σ (et i) v = .inr (ci, fs)) (hci : vwCl[ci]? = some (C, T, N)) (hca : Cond.castable C "java/lang/Object" ∈ NW_) (hd : decode cc pc = .ok (.aastore, 1)) (kk : Bk X fin cc nL own rt fr lo val kc cs ad (wp σ i j.toNatClampNeg (v + 1)) (pc + 1) lv st f) : Bk X fin cc nL own rt fr lo val kc cs ad σ pc lv (.ref (ad (et i) v) :: .int j :: .ref (ad 27 i) :: st) f := by
  intro res σ' hf p e s m args below meth c B H locs ls hH hS hl9
  have hl := lvl_e h
  have hP : va_at X.2.1 vwCl (ad 27 i, .inl (X.2.2.1 5, 10, .inr (.inr (.inr (.inr (elF ad σ i)))))) H := by rw [← cell_27]; exact (hH.1 27 i hl).1
  have hPv : va_at X.2.1 vwCl (ad (et i) v, .inr (ci, fs)) H := by rw [← hcv]; exact (hH.1 (et i) v hlv).1
  have hK := B.2.2.2.2.2.2.2.2.1
  obtain ⟨r', hr', cellV, g1, g2, g3, -⟩ := hPv
  have hcls := (hK.1 ci _ hci).2
  obtain ⟨kA, comp, k1, k2, k3, -⟩ := (hK.2 5 (X.2.2.1 5, .object "java/lang/Object") rfl).2
  obtain ⟨kE, hkE, -⟩ := Vm.findClass_spec k3
  obtain ⟨c0, t1, f1, f2, f3⟩ := Cond.castable_spec (nw_at B.2.2.2.2.2.2.2.2.2.1 (args := args) hca)
  cases hcls.1.symm.trans f1
  cases k3.symm.trans f2
  obtain ⟨kC, hkC, -⟩ := hcls.2
  refine W.aast B.1 B.2.1 hP (fun q h => by cases h) (fun h => by cases h) k1 k2 rfl hkE ⟨hin.1, by show _ < (arrV _ _ _).slots.size; rw [arrV_size]; exact hin.2⟩ g1 (fun q h => by rw [g3] at h; cases h) (by rw [g2]; exact hkC) (by rw [g2]; exact f3) rfl rfl hd fun H1 e1 z oq => ?_
  refine kk res σ' hf p e s m args below meth c B H1 _ ls (hH.put hl (e := .inl (X.2.2.1 5, 10, .inr (.inr (.inr (.inr (va_up (elF ad σ i) j.toNatClampNeg (some (ad (et i) v)))))))) ?_ oq ?_ (fun t' i' hn => cellv_el (σ := wp σ i j.toNatClampNeg (v + 1)) (τ := σ) (i := i) rfl rfl (fun a ha => by funext b; simp [wp, ha]) hn) (fun _ _ z => z)) (hS.put z oq (hH.1 27 i hl).2) hl9
  · show H1[ad 27 i]? = some (vp_cell _ _)
    rw [e1]
    rw [vp_cell_q, vp_cell_q, arrV_store]
    congr 2
    funext q
    by_cases hq : q = j.toNatClampNeg
    · subst hq
      simp [updV, va_up, va_rf]
    · simp [updV, va_up, hq]
  · rw [cell_27]
    refine congrArg (fun z => (Sum.inl (X.2.2.1 5, 10, .inr (.inr (.inr (.inr z)))) : va_E)) ?_
    funext q
    by_cases hq : q = j.toNatClampNeg
    · subst hq
      simp [elF, wp, va_up]
    · simp [elF, wp, va_up, hq]
theorem r_castS {t i ci index N : Nat} {C : String} {T : u_T} {fs : List Value} (hl : lvp σ t i) (hc : cellv X ad σ t i = .inr (ci, fs)) (hci : vwCl[ci]? = some (C, T, N)) (w1 : Cond.classLink own index C ∈ G_) (hd : decode cc pc = .ok (.checkcast index, 3))
    (kk : Bk X fin cc nL own rt fr lo val kc cs ad σ (pc + 3) lv (.ref (ad t i) :: st) f) : Bk X fin cc nL own rt fr lo val kc cs ad σ pc lv (.ref (ad t i) :: st) f := by
  intro res σ' h p e s m args below meth c B H locs ls hH hS hl9
  have hat : va_at X.2.1 vwCl (ad t i, .inr (ci, fs)) H := by rw [← hc]; exact (hH.1 t i hl).1
  have hcls := (B.2.2.2.2.2.2.2.2.1.1 ci _ hci).2
  exact va_castS B.1 B.2.1 B.2.2.2.1 (B.2.2.2.2.1 _ w1) hcls (va_recv (q := (C, T, N)) (q0 := 0) B.2.2.2.2.2.2.2.2.1 (va_P1 hat) hci rfl) hd (kk res σ' h p e s m args below meth c B H locs ls hH hS hl9)
theorem nnI {z : Int32} (hz : ¬ z < 0) : z.toInt = (z.toNatClampNeg : Int) := by
  have hz0 : (0 : Int) ≤ z.toInt := by
    have := Int32.not_lt.mp hz
    simpa using Int32.le_iff_toInt_le.mp this
  show z.toInt = ((z.toInt.toNat : Nat) : Int)
  omega
/-- what a copy leaves -/
def wcI (σ : Wd) (t u sp dp n : Nat) : Wd := (fun t' i' k' => if t' = u ∧ i' = 0 then va_cpy (σ.1 t 0) (σ.1 u 0) sp dp n k' else σ.1 t' i' k', σ.2)
theorem r_copyI {t u n0 n1 index : Nat} {sp dp n : Int32} (hl0 : lvp σ t 0) (hl1 : lvp σ u 0) (hc0 : ∀ τ : Wd, cellv X ad τ t 0 = .inl (X.2.2.1 0, n0, .inl (τ.1 t 0))) (hc1 : ∀ τ : Wd, cellv X ad τ u 0 = .inl (X.2.2.1 0, n1, .inl (τ.1 u 0)))
    (w1 : Cond.methodLink own index arraycopyName ∈ G_) (w2 : Cond.native arraycopyName ∈ G_) (w3 : Cond.static arraycopyName ∈ G_) (w4 : Cond.initialized "java/lang/System" ∈ G_)
    (h1 : ¬ sp < 0) (h2 : ¬ dp < 0) (h3 : ¬ n < 0) (h4 : sp.toNatClampNeg + n.toNatClampNeg ≤ n0) (h5 : dp.toNatClampNeg + n.toNatClampNeg ≤ n1) (hf1 : 1 ≤ fr) (hlo : (st.map fun v => v.category).sum + (nativeFrameWords "java/lang/System" "arraycopy" 5 + 11) ≤ lo) (hd : decode cc pc = .ok (.invokestatic index, 3))
    (kk : Bk X fin cc nL own rt fr lo val kc cs ad (wcI σ t u sp.toNatClampNeg dp.toNatClampNeg n.toNatClampNeg) (pc + 3) lv st f) : Bk X fin cc nL own rt fr lo val kc cs ad σ pc lv (.int n :: .int dp :: .ref (ad u 0) :: .int sp :: .ref (ad t 0) :: st) f := by
  intro res σ' hf p e s m args below meth c B H locs ls hH hS hl9 T hT Y
  have hK := B.2.2.2.2.2.2.2.2.1
  have hts := B.2.2.2.2.1
  have a0 : H[ad t 0]? = some (vp_cell (X.2.2.1 0) (n0, .inl (σ.1 t 0))) := by
    have z := (hH.1 t 0 hl0).1
    rw [hc0 σ] at z
    exact z
  have a1 : H[ad u 0]? = some (vp_cell (X.2.2.1 0) (n1, .inl (σ.1 u 0))) := by
    have z := (hH.1 u 0 hl1).1
    rw [hc1 σ] at z
    exact z
  obtain ⟨-, k0, hk0, cm0, hkk0⟩ := (hK.2 0 (X.2.2.1 0, .int) rfl).1 n0 (fun j => .int (σ.1 t 0 j))
  obtain ⟨-, k1, hk1, cm1, hkk1⟩ := (hK.2 0 (X.2.2.1 0, .int) rfl).1 n1 (fun j => .int (σ.1 u 0 j))
  obtain ⟨vm', Y', step⟩ := Y.arraycopy B.1 B.2.2.2.1 (hts _ w1) (hts _ w2) (hts _ w3) (hts _ w4) (src := ad t 0) (dst := ad u 0) (cs := vp_cell (X.2.2.1 0) (n0, .inl (σ.1 t 0))) (cd := vp_cell (X.2.2.1 0) (n1, .inl (σ.1 u 0))) (srcPos := sp) (destPos := dp) (n := n) (by rw [hT]; exact a0) (by rw [hT]; exact a1)
    (fun _ h => by cases h) (fun _ h => by cases h) (fun h => by cases h) (fun h => by cases h) hk0 hk1 hkk0 hkk1 rfl h1 h2 h3
    (by rw [nnI h1, nnI h3]; show ¬ _ > ((arrV (X.2.2.1 0) n0 (fun j => .int (σ.1 t 0 j))).slots.size : Int); rw [arrV_size]; omega)
    (by rw [nnI h2, nnI h3]; show ¬ _ > ((arrV (X.2.2.1 0) n1 (fun j => .int (σ.1 u 0 j))).slots.size : Int); rw [arrV_size]; omega)
    (fun vm₁ _ i hi => by
      have e : (vp_cell (X.2.2.1 0) (n0, .inl (σ.1 t 0))).slots.getD (sp.toNatClampNeg + i) .null = .int (σ.1 t 0 (sp.toNatClampNeg + i)) := by
        show (arrV (X.2.2.1 0) n0 (fun j => .int (σ.1 t 0 j))).slots.getD _ _ = _
        rw [Array.getD_eq_getD_getElem?, arrV_read _ _ (by omega)]
        rfl
      refine ⟨?_, ?_⟩
      · rw [e]
        rfl
      · rw [e]
        exact trivial)
    (g := F0 m pc ls (.int n :: .int dp :: .ref (ad u 0) :: .int sp :: .ref (ad t 0) :: st)) rfl (by rw [hl9.1, B.2.2.1]) (rest := st) rfl (by rw [B.2.1]; exact hd) hf1 (by show 2 * 0 + _ + _ ≤ lo; omega)
  have e1 : copied (vp_cell (X.2.2.1 0) (n0, .inl (σ.1 t 0))) (vp_cell (X.2.2.1 0) (n1, .inl (σ.1 u 0))) sp dp n = vp_cell (X.2.2.1 0) (n1, .inl (va_cpy (σ.1 t 0) (σ.1 u 0) sp.toNatClampNeg dp.toNatClampNeg n.toNatClampNeg)) := va_copied (fun z => .int z) _ _ _ _ h4
  rw [e1] at Y' step
  have hl : ad u 0 < H.size := (Array.getElem?_eq_some_iff.mp a1).1
  have hheap : ((T.setVm vm').setCell (ad u 0) (vp_cell (X.2.2.1 0) (n1, .inl (va_cpy (σ.1 t 0) (σ.1 u 0) sp.toNatClampNeg dp.toNatClampNeg n.toNatClampNeg)))).heap = H.setIfInBounds (ad u 0) (vp_cell (X.2.2.1 0) (n1, .inl (va_cpy (σ.1 t 0) (σ.1 u 0) sp.toNatClampNeg dp.toNatClampNeg n.toNatClampNeg))) := by rw [← hT]; rfl
  have oq : ∀ q : Nat, q ≠ ad u 0 → (H.setIfInBounds (ad u 0) (vp_cell (X.2.2.1 0) (n1, .inl (va_cpy (σ.1 t 0) (σ.1 u 0) sp.toNatClampNeg dp.toNatClampNeg n.toNatClampNeg))))[q]? = H[q]? := fun q hq => by simp [Array.getElem?_setIfInBounds, Ne.symm hq]
  have hH1 : HW X ad (wcI σ t u sp.toNatClampNeg dp.toNatClampNeg n.toNatClampNeg) (H.setIfInBounds (ad u 0) (vp_cell (X.2.2.1 0) (n1, .inl (va_cpy (σ.1 t 0) (σ.1 u 0) sp.toNatClampNeg dp.toNatClampNeg n.toNatClampNeg)))) := by
    refine hH.put hl1 (e := .inl (X.2.2.1 0, n1, .inl (va_cpy (σ.1 t 0) (σ.1 u 0) sp.toNatClampNeg dp.toNatClampNeg n.toNatClampNeg))) (show (H.setIfInBounds (ad u 0) _)[ad u 0]? = some _ by simp [Array.getElem?_setIfInBounds, hl]) oq ?_ (fun t' i' hn => cellv_eq ?_ rfl) (fun _ _ z => z)
    · rw [hc1]
      congr 4
      funext k
      simp [wcI]
    · funext k
      simp only [wcI]
      rw [if_neg hn]
  obtain ⟨t2, b1, b2⟩ := kk res σ' hf p e s m args below meth c B _ _ ls hH1 ⟨by simp; exact hS.1, fun q g1 g2 => by
      rw [oq q (fun e => g2 (by rw [e]; exact (hH.1 u 0 hl1).2))]
      exact hS.2.1 q g1 g2, fun q hq => by
      rcases List.mem_append.mp hq with h | h
      · exact hS.2.2 q h
      · obtain ⟨z, -, hz⟩ := List.mem_map.mp h
        rw [← hz]
        exact (hH.1 u 0 hl1).2⟩ hl9 _ hheap Y'
  exact ⟨t2, step t2 b1, b2⟩
theorem r_copyE {u index : Nat} {sp dp n : Int32} (h : u + 2 < 8 ∧ σ.2.2 (20 + (u + 2)) ≠ 0) (hall : ∀ j, j < 10 → σ.2.1 (u + 2) j - 1 < σ.2.2 10 ∨ σ.2.1 (u + 2) j = 0)
    (w1 : Cond.methodLink own index arraycopyName ∈ G_) (w2 : Cond.native arraycopyName ∈ G_) (w3 : Cond.static arraycopyName ∈ G_) (w4 : Cond.initialized "java/lang/System" ∈ G_) (w5 : Cond.castable RX2 "java/lang/Object" ∈ NW_)
    (h1 : ¬ sp < 0) (h2 : ¬ dp < 0) (h3 : ¬ n < 0) (h4 : sp.toNatClampNeg + n.toNatClampNeg ≤ 10) (h5 : dp.toNatClampNeg + n.toNatClampNeg ≤ 10) (hf1 : 1 ≤ fr) (hlo : (st.map fun v => v.category).sum + (nativeFrameWords "java/lang/System" "arraycopy" 5 + 11) ≤ lo) (hd : decode cc pc = .ok (.invokestatic index, 3))
    (kk : Bk X fin cc nL own rt fr lo val kc cs ad (wcp σ (u + 2) sp.toNatClampNeg dp.toNatClampNeg n.toNatClampNeg) (pc + 3) lv st f) : Bk X fin cc nL own rt fr lo val kc cs ad σ pc lv (.int n :: .int dp :: .ref (ad 27 (u + 2)) :: .int sp :: .ref (ad 27 (u + 2)) :: st) f := by
  intro res σ' hf p e s m args below meth c B H locs ls hH hS hl9 T hT Y
  have hK := B.2.2.2.2.2.2.2.2.1
  have hts := B.2.2.2.2.1
  have hl1 := lvl_e h
  have a1 : H[ad 27 (u + 2)]? = some (vp_cell (X.2.2.1 5) (10, .inr (.inr (.inr (.inr (elF ad σ (u + 2))))))) := by
    have z := (hH.1 27 (u + 2) hl1).1
    rw [cell_27] at z
    exact z
  obtain ⟨-, k1, hk1, cm1, hkk1⟩ := (hK.2 5 (X.2.2.1 5, .object "java/lang/Object") rfl).1 10 (fun j => va_rf (elF ad σ (u + 2) j))
  have hasg : ∀ comp c0 : ClassId, s.vm.findClass "java/lang/Object" = some comp → s.vm.findClass RX2 = some c0 → s.vm.assignable c0 comp = true := by
    intro comp c0 z1 z2
    obtain ⟨c0', t1, f1, f2, f3⟩ := Cond.castable_spec (nw_at B.2.2.2.2.2.2.2.2.2.1 (args := args) w5)
    cases z2.symm.trans f1
    cases z1.symm.trans f2
    exact f3
  obtain ⟨vm', Y', step⟩ := Y.arraycopy B.1 B.2.2.2.1 (hts _ w1) (hts _ w2) (hts _ w3) (hts _ w4) (src := ad 27 (u + 2)) (dst := ad 27 (u + 2)) (cs := vp_cell (X.2.2.1 5) (10, .inr (.inr (.inr (.inr (elF ad σ (u + 2))))))) (cd := vp_cell (X.2.2.1 5) (10, .inr (.inr (.inr (.inr (elF ad σ (u + 2))))))) (srcPos := sp) (destPos := dp) (n := n) (by rw [hT]; exact a1) (by rw [hT]; exact a1)
    (fun _ h => by cases h) (fun _ h => by cases h) (fun h => by cases h) (fun h => by cases h) hk1 hk1 hkk1 hkk1 rfl h1 h2 h3
    (by rw [nnI h1, nnI h3]; show ¬ _ > ((arrV (X.2.2.1 5) 10 (fun j => va_rf (elF ad σ (u + 2) j))).slots.size : Int); rw [arrV_size]; omega)
    (by rw [nnI h2, nnI h3]; show ¬ _ > ((arrV (X.2.2.1 5) 10 (fun j => va_rf (elF ad σ (u + 2) j))).slots.size : Int); rw [arrV_size]; omega)
    (fun vm₁ hal i hi => by
      have e : (vp_cell (X.2.2.1 5) (10, .inr (.inr (.inr (.inr (elF ad σ (u + 2))))))).slots.getD (sp.toNatClampNeg + i) .null = va_rf (elF ad σ (u + 2) (sp.toNatClampNeg + i)) := by
        show (arrV (X.2.2.1 5) 10 (fun j => va_rf (elF ad σ (u + 2) j))).slots.getD _ _ = _
        rw [Array.getD_eq_getD_getElem?, arrV_read _ _ (by omega)]
        rfl
      rw [e]
      rcases hall (sp.toNatClampNeg + i) (by omega) with q | q
      · by_cases q0 : σ.2.1 (u + 2) (sp.toNatClampNeg + i) = 0
        · rw [show elF ad σ (u + 2) (sp.toNatClampNeg + i) = none from if_pos q0]
          exact ⟨rfl, trivial⟩
        · rw [show elF ad σ (u + 2) (sp.toNatClampNeg + i) = some (ad 26 (σ.2.1 (u + 2) (sp.toNatClampNeg + i) - 1)) from if_neg q0]
          have hv : va_at X.2.1 vwCl (ad 26 (σ.2.1 (u + 2) (sp.toNatClampNeg + i) - 1), _) H := (hH.1 26 _ (lvd_26 q)).1
          rw [cell_26] at hv
          obtain ⟨cellV, g1, g2, g3⟩ := va_recv (q := (RX2, TX2, 4)) (q0 := 0) hK (va_P1 hv) rfl rfl
          obtain ⟨kA, comp, r1, r2, r3, -⟩ := (hK.2 5 (X.2.2.1 5, .object "java/lang/Object") rfl).2
          cases hk1.symm.trans r1
          cases hkk1.symm.trans r2
          obtain ⟨kC, hkC, -⟩ := Vm.findClass_spec g3
          obtain ⟨kE, hkE, -⟩ := Vm.findClass_spec r3
          obtain ⟨kC', hkC', -⟩ := hal.2.2 _ _ hkC
          obtain ⟨kE', hkE', -⟩ := hal.2.2 _ _ hkE
          refine ⟨rfl, cellV, (show T.heap[_]? = some cellV by rw [hT]; exact g1), (fun q h => by rw [h] at g2; cases g2), ⟨kC', hkC'⟩, ?_, ?_⟩
          · exact ⟨kE', hkE'⟩
          · show vm₁.assignable _ _ = true
            rw [hal.assignable]
            exact hasg _ _ r3 g3
      · rw [show elF ad σ (u + 2) (sp.toNatClampNeg + i) = none from if_pos q]
        exact ⟨rfl, trivial⟩)
    (g := F0 m pc ls (.int n :: .int dp :: .ref (ad 27 (u + 2)) :: .int sp :: .ref (ad 27 (u + 2)) :: st)) rfl (by rw [hl9.1, B.2.2.1]) (rest := st) rfl (by rw [B.2.1]; exact hd) hf1 (by show 2 * 0 + _ + _ ≤ lo; omega)
  have e1 : copied (vp_cell (X.2.2.1 5) (10, .inr (.inr (.inr (.inr (elF ad σ (u + 2))))))) (vp_cell (X.2.2.1 5) (10, .inr (.inr (.inr (.inr (elF ad σ (u + 2))))))) sp dp n = vp_cell (X.2.2.1 5) (10, .inr (.inr (.inr (.inr (va_cpy (elF ad σ (u + 2)) (elF ad σ (u + 2)) sp.toNatClampNeg dp.toNatClampNeg n.toNatClampNeg))))) := by
    rw [vp_cell_q, vp_cell_q]
    exact va_copied (fun z => va_rf z) _ _ _ _ h4
  rw [e1] at Y' step
  have hl : ad 27 (u + 2) < H.size := (Array.getElem?_eq_some_iff.mp a1).1
  generalize hcell : vp_cell (X.2.2.1 5) (10, .inr (.inr (.inr (.inr (va_cpy (elF ad σ (u + 2)) (elF ad σ (u + 2)) sp.toNatClampNeg dp.toNatClampNeg n.toNatClampNeg))))) = cl9 at Y' step
  have hheap : ((T.setVm vm').setCell (ad 27 (u + 2)) cl9).heap = H.setIfInBounds (ad 27 (u + 2)) cl9 := by rw [← hT]; rfl
  have oq : ∀ q : Nat, q ≠ ad 27 (u + 2) → (H.setIfInBounds (ad 27 (u + 2)) cl9)[q]? = H[q]? := fun q hq => by simp [Array.getElem?_setIfInBounds, Ne.symm hq]
  have hH1 : HW X ad (wcp σ (u + 2) sp.toNatClampNeg dp.toNatClampNeg n.toNatClampNeg) (H.setIfInBounds (ad 27 (u + 2)) cl9) := by
    refine hH.put hl1 (e := .inl (X.2.2.1 5, 10, .inr (.inr (.inr (.inr (va_cpy (elF ad σ (u + 2)) (elF ad σ (u + 2)) sp.toNatClampNeg dp.toNatClampNeg n.toNatClampNeg)))))) (show (H.setIfInBounds (ad 27 (u + 2)) _)[ad 27 (u + 2)]? = some _ by rw [hcell]; simp [Array.getElem?_setIfInBounds, hl]) oq ?_ (fun t' i' hn => cellv_el (σ := wcp σ (u + 2) sp.toNatClampNeg dp.toNatClampNeg n.toNatClampNeg) (τ := σ) (i := u + 2) rfl rfl (fun a ha => by funext b; simp [wcp, ha]) hn) (fun _ _ z => z)
    rw [cell_27]
    refine congrArg (fun z => (Sum.inl (X.2.2.1 5, 10, .inr (.inr (.inr (.inr z)))) : va_E)) ?_
    funext q
    by_cases hq : dp.toNatClampNeg ≤ q ∧ q < dp.toNatClampNeg + n.toNatClampNeg
    · rw [pk_cpy_in hq.1 hq.2]
      simp only [elF, wcp, if_true, if_pos hq]
    · rw [pk_cpy_out (by omega)]
      simp only [elF, wcp, if_true, if_neg hq]
  obtain ⟨t2, b1, b2⟩ := kk res σ' hf p e s m args below meth c B _ _ ls hH1 ⟨by simp; exact hS.1, fun q g1 g2 => by
      rw [oq q (fun e => g2 (by rw [e]; exact (hH.1 27 (u + 2) hl1).2))]
      exact hS.2.1 q g1 g2, fun q hq => by
      rcases List.mem_append.mp hq with h | h
      · exact hS.2.2 q h
      · obtain ⟨z, -, hz⟩ := List.mem_map.mp h
        rw [← hz]
        exact (hH.1 27 (u + 2) hl1).2⟩ hl9 _ hheap Y'
  exact ⟨t2, step t2 b1, b2⟩
end LBK
