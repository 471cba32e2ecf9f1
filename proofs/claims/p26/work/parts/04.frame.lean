/-! the words of the tables that are good ones, and those that need a premise of their own -/
def G_ : List Cond := lw_tbl.filter goodWord
def nwk : Cond → Bool
  | .castable _ _ => true
  | .declares _ => true
  | .methodLinkNest _ _ _ _ => true
  | _ => false
def NW_ : List Cond := tables_1.filter nwk
theorem g_mem {w : Cond} (h : w ∈ tables_1) (hg : goodWord w = true) : w ∈ G_ := List.mem_filter.mpr ⟨List.mem_append_right _ h, hg⟩
theorem gt1 {w : Cond} (i : Nat) (h : tables_1_1[i]? = some w) (hg : goodWord w = true) : w ∈ G_ := g_mem (List.mem_append_left _ (List.mem_of_getElem? h)) hg
theorem gt2 {w : Cond} (i : Nat) (h : tables_1_2[i]? = some w) (hg : goodWord w = true) : w ∈ G_ := g_mem (List.mem_append_right _ (List.mem_append_left _ (List.mem_of_getElem? h))) hg
theorem gt3 {w : Cond} (i : Nat) (h : tables_1_3[i]? = some w) (hg : goodWord w = true) : w ∈ G_ := g_mem (List.mem_append_right _ (List.mem_append_right _ (List.mem_append_left _ (List.mem_of_getElem? h)))) hg
theorem gt4 {w : Cond} (i : Nat) (h : tables_1_4[i]? = some w) (hg : goodWord w = true) : w ∈ G_ := g_mem (List.mem_append_right _ (List.mem_append_right _ (List.mem_append_right _ (List.mem_of_getElem? h)))) hg
theorem gsl {w : Cond} (i : Nat) (h : (k2_sels lw_privs)[i]? = some w) (hg : goodWord w = true) : w ∈ G_ := List.mem_filter.mpr ⟨List.mem_append_left _ (List.mem_of_getElem? h), hg⟩
theorem nw_mem {w : Cond} (h : w ∈ tables_1) (hg : nwk w = true) : w ∈ NW_ := List.mem_filter.mpr ⟨h, hg⟩
theorem nt1 {w : Cond} (i : Nat) (h : tables_1_1[i]? = some w) (hg : nwk w = true) : w ∈ NW_ := nw_mem (List.mem_append_left _ (List.mem_of_getElem? h)) hg
theorem nt2 {w : Cond} (i : Nat) (h : tables_1_2[i]? = some w) (hg : nwk w = true) : w ∈ NW_ := nw_mem (List.mem_append_right _ (List.mem_append_left _ (List.mem_of_getElem? h))) hg
theorem nt3 {w : Cond} (i : Nat) (h : tables_1_3[i]? = some w) (hg : nwk w = true) : w ∈ NW_ := nw_mem (List.mem_append_right _ (List.mem_append_right _ (List.mem_append_left _ (List.mem_of_getElem? h)))) hg
theorem nt4 {w : Cond} (i : Nat) (h : tables_1_4[i]? = some w) (hg : nwk w = true) : w ∈ NW_ := nw_mem (List.mem_append_right _ (List.mem_append_right _ (List.mem_append_right _ (List.mem_of_getElem? h)))) hg
theorem nwk_on {w : Cond} (h : nwk w = true) : w.onTables = true := by
  cases w <;> first | rfl | cases h
theorem nwk_warm {w : Cond} {s U : State} (h : nwk w = true) (hW : s.WarmedH U.vm) (hZ : va_Nw w s) : va_Nw w U := by
  cases w <;> first | exact va_Nw.warmC hW hZ | exact va_Nw.warmD hW hZ | exact va_Nw.warmM hW hZ | cases h
theorem G_good : ∀ w ∈ G_, goodWord w = true := fun _ h => (List.mem_filter.mp h).2
theorem G_in {y : MethodName} {cc : ByteArray} {n : Nat} {r : Option FieldType} (h : Cond.code y cc n r ∈ G_) : GoodIn G_ (Cond.code y cc n r :: G_) := fun w hw => by
  have h1 : w ∈ G_ := (List.mem_cons.mp hw).elim (fun e => by rw [e]; exact h) id
  exact ⟨h1, good_of_word (G_good w h1)⟩
/-! the state: numbers by (tag, index, slot); what the lists hold; how many there are -/
abbrev Ad : Type := Nat → Nat → Nat
abbrev Wd : Type := (Nat → Nat → Nat → Int32) × (Nat → Nat → Nat) × (Nat → Nat)
/-- the launch; where the fields lie; the numbers of the array types; where the new cells begin; the empty array of the lists -/
abbrev Xt : Type := Launch × va_G × (Nat → ClassId) × Nat × Nat
def tysX (X : Xt) : List (ClassId × FieldType) := [(X.2.2.1 0, .int), (X.2.2.1 1, .int), (X.2.2.1 2, .object "Stablingroad$Exam"), (X.2.2.1 3, .object "Stablingroad$Permit"), (X.2.2.1 4, .object "Stablingroad$Row"), (X.2.2.1 5, .object "java/lang/Object"), (X.2.2.1 6, .int)]
def Az (X : Xt) : Nat → Prop := fun q => X.2.2.2.1 ≤ q
/-- the tag of a list's elements -/
def et (i : Nat) : Nat := match i with
  | 0 => 21
  | 1 => 25
  | _ => 26
def elA (X : Xt) (ad : Ad) (σ : Wd) (i : Nat) : Nat := if σ.2.2 (20 + i) = 0 then X.2.2.2.2 else ad 27 i
def elF (ad : Ad) (σ : Wd) (i : Nat) : Nat → Option Nat := fun j => if σ.2.1 i j = 0 then none else some (ad (et i) (σ.2.1 i j - 1))
def cellv (X : Xt) (ad : Ad) (σ : Wd) (t i : Nat) : va_E := match t with
  | 0 => .inr (10, [.ref (ad 1 0), .ref (ad 1 1), .ref (ad 4 0), .ref (ad 7 0), .ref (ad 12 0), .ref (ad 19 0), .int (σ.1 0 i 6), .int (σ.1 0 i 7), .int (σ.1 0 i 8), .int (σ.1 0 i 9)])
  | 1 => .inr (0, [.int (σ.1 1 i 0), .ref (elA X ad σ i), .int (σ.1 1 i 2)])
  | 4 => .inl (X.2.2.1 4, 3, .inr (.inr (.inr (.inr (fun j => some (ad 5 j))))))
  | 5 => .inr (7, [.ref (ad 6 i), .int (σ.1 5 i 1)])
  | 6 => .inl (X.2.2.1 0, 6, .inl (σ.1 6 i))
  | 7 => .inr (8, [.ref (ad 8 0), .ref (ad 10 0)])
  | 8 => .inl (X.2.2.1 2, 3, .inr (.inr (.inr (.inr (fun j => some (ad 9 j))))))
  | 9 => .inr (2, [.int (σ.1 9 i 0), .int (σ.1 9 i 1), .int (σ.1 9 i 2)])
  | 10 => .inl (X.2.2.1 3, 4, .inr (.inr (.inr (.inr (fun j => some (ad 11 j))))))
  | 11 => .inr (6, [.int (σ.1 11 i 0), .int (σ.1 11 i 1)])
  | 12 => .inr (4, [.ref (ad 13 0), .ref (ad 14 0), .ref (ad 15 0), .ref (ad 16 0), .ref (ad 17 0), .ref (ad 18 0), .int (σ.1 12 i 6), .int (σ.1 12 i 7)])
  | 13 => .inl (X.2.2.1 0, 6, .inl (σ.1 13 i))
  | 14 => .inl (X.2.2.1 0, 6, .inl (σ.1 14 i))
  | 15 => .inl (X.2.2.1 0, 6, .inl (σ.1 15 i))
  | 16 => .inl (X.2.2.1 0, 6, .inl (σ.1 16 i))
  | 17 => .inl (X.2.2.1 0, 6, .inl (σ.1 17 i))
  | 18 => .inl (X.2.2.1 0, 448, .inl (σ.1 18 i))
  | 19 => .inr (5, [.ref (ad 20 0)])
  | 20 => .inl (X.2.2.1 0, 1200, .inl (σ.1 20 i))
  | 21 => .inr (9, [.int (σ.1 21 i 0), .ref (ad 1 (i + 2)), .int (σ.1 21 i 2), .int (σ.1 21 i 3), .ref (ad 22 i), .ref (ad 23 i), .ref (ad 24 i)])
  | 22 => .inl (X.2.2.1 0, 3, .inl (σ.1 22 i))
  | 23 => .inl (X.2.2.1 0, 3, .inl (σ.1 23 i))
  | 24 => .inl (X.2.2.1 0, 4, .inl (σ.1 24 i))
  | 25 => .inr (1, [.int (σ.1 25 i 0), .int (σ.1 25 i 1), .int (σ.1 25 i 2), .int (σ.1 25 i 3), .int (σ.1 25 i 4), .int (σ.1 25 i 5)])
  | 26 => .inr (3, [.int (σ.1 26 i 0), .int (σ.1 26 i 1), .int (σ.1 26 i 2), .int (σ.1 26 i 3)])
  | 27 => .inl (X.2.2.1 5, 10, .inr (.inr (.inr (.inr (elF ad σ i)))))
  | 71 => .inl (X.2.2.1 0, 64, .inl (σ.1 71 i))
  | 72 => .inl (X.2.2.1 0, 64, .inl (σ.1 72 i))
  | 73 => .inl (X.2.2.1 0, 64, .inl (σ.1 73 i))
  | 74 => .inl (X.2.2.1 0, 16, .inl (σ.1 74 i))
  | 75 => .inl (X.2.2.1 0, 18, .inl (σ.1 75 i))
  | 76 => .inl (X.2.2.1 0, 17, .inl (σ.1 76 i))
  | 77 => .inl (X.2.2.1 0, 3, .inl (σ.1 77 i))
  | _ => .inl (X.2.2.1 0, 0, .inl (fun _ => 0))
/-- how many of a tag there are -/
def lim (σ : Wd) (t : Nat) : Nat := match t with
  | 0 => 1
  | 1 => 2 + σ.2.2 8
  | 4 => 1
  | 5 => 3
  | 6 => 3
  | 7 => 1
  | 8 => 1
  | 9 => 3
  | 10 => 1
  | 11 => 4
  | 12 => 1
  | 13 => 1
  | 14 => 1
  | 15 => 1
  | 16 => 1
  | 17 => 1
  | 18 => 1
  | 19 => 1
  | 20 => 1
  | 21 => σ.2.2 8
  | 22 => σ.2.2 8
  | 23 => σ.2.2 8
  | 24 => σ.2.2 8
  | 25 => σ.2.2 9
  | 26 => σ.2.2 10
  | 27 => 8
  | 71 => 1
  | 72 => 1
  | 73 => 1
  | 74 => 1
  | 75 => 1
  | 76 => 1
  | 77 => 1
  | _ => 0
def lvp (σ : Wd) (t i : Nat) : Prop := i < lim σ t ∧ (t = 27 → σ.2.2 (20 + i) ≠ 0)
/-- a number is written -/
def wr (σ : Wd) (t i k : Nat) (v : Int32) : Wd := (fun t' i' k' => if t' = t ∧ i' = i ∧ k' = k then v else σ.1 t' i' k', σ.2)
theorem wr_same (σ : Wd) (t i k : Nat) (v : Int32) : (wr σ t i k v).1 t i k = v := if_pos ⟨rfl, rfl, rfl⟩
theorem wr_upd (σ : Wd) (t i k : Nat) (v : Int32) : (wr σ t i k v).1 t i = upd (σ.1 t i) k v := by
  funext j
  simp [wr, upd]
theorem wr_off (σ : Wd) {t i k : Nat} {v : Int32} {t' i' : Nat} (h : ¬ (t' = t ∧ i' = i)) : (wr σ t i k v).1 t' i' = σ.1 t' i' := by
  funext j
  simp only [wr]
  rw [if_neg (fun z => h ⟨z.1, z.2.1⟩)]
theorem cellv_eq {X : Xt} {ad : Ad} {σ τ : Wd} {t i : Nat} (h : σ.1 t i = τ.1 t i) (h2 : σ.2 = τ.2) : cellv X ad σ t i = cellv X ad τ t i := by
  unfold cellv elA elF
  split <;> simp only [h, h2]
/-- the world: each thing that there is stands at its place, and no two at one -/
def HW (X : Xt) (ad : Ad) (σ : Wd) (H : Heap) : Prop := (∀ t i, lvp σ t i → va_at X.2.1 vwCl (ad t i, cellv X ad σ t i) H ∧ X.2.2.2.1 ≤ ad t i) ∧ ∀ t i t' i', lvp σ t i → lvp σ t' i' → ad t i = ad t' i' → t = t' ∧ i = i'
theorem HW.kept {X : Xt} {ad : Ad} {σ : Wd} {H H1 : Heap} (h : HW X ad σ H) (hq : ∀ t i, lvp σ t i → H1[ad t i]? = H[ad t i]?) : HW X ad σ H1 := ⟨fun t i hl => ⟨(h.1 t i hl).1.kept (hq t i hl), (h.1 t i hl).2⟩, h.2⟩
theorem HW.put {X : Xt} {ad : Ad} {σ σ1 : Wd} {H H1 : Heap} (h : HW X ad σ H) {t i : Nat} (hl : lvp σ t i) {e : va_E} (he : va_at X.2.1 vwCl (ad t i, e) H1) (oq : ∀ q : Nat, q ≠ ad t i → H1[q]? = H[q]?) (hc : cellv X ad σ1 t i = e) (hs : ∀ t' i', ¬ (t' = t ∧ i' = i) → cellv X ad σ1 t' i' = cellv X ad σ t' i') (hv : ∀ t' i', lvp σ1 t' i' → lvp σ t' i') : HW X ad σ1 H1 := by
  refine ⟨fun t' i' h1 => ?_, fun a b c d h1 h2 h3 => h.2 a b c d (hv a b h1) (hv c d h2) h3⟩
  have h0 := hv t' i' h1
  refine ⟨?_, (h.1 t' i' h0).2⟩
  by_cases hk : t' = t ∧ i' = i
  · obtain ⟨rfl, rfl⟩ := hk
    rw [hc]; exact he
  · rw [hs t' i' hk]
    exact (h.1 t' i' h0).1.kept (oq _ (fun z => hk (h.2 t' i' t i h0 hl z)))
theorem HW.wr {X : Xt} {ad : Ad} {σ : Wd} {H H1 : Heap} (h : HW X ad σ H) {t i k : Nat} {v : Int32} (hl : lvp σ t i) {e : va_E} (he : va_at X.2.1 vwCl (ad t i, e) H1) (oq : ∀ q : Nat, q ≠ ad t i → H1[q]? = H[q]?) (hc : cellv X ad (wr σ t i k v) t i = e) : HW X ad (wr σ t i k v) H1 :=
  h.put hl he oq hc (fun t' i' hn => cellv_eq (wr_off σ hn) rfl) (fun _ _ z => z)
/-! the statics, the texts, the words with premises of their own -/
def strs : List (String × Nat × String) := [("Stablingroad", 280, "no such diagram"), ("Stablingroad", 278, "no such unit"), ("Stablingroad$Rules", 29, "no such exam"), ("Stablingroad$Unit", 95, "no such fault"), ("Stablingroad$Rules", 34, "no such kind"), ("Stablingroad", 282, "no such depot"), ("Stablingroad", 272, "out of its range"), ("Stablingroad", 76, "there are 6 units"), ("Stablingroad", 270, "there is nothing of that number"), ("Stablingroad", 97, "there are 6 diagrams"), ("Stablingroad", 140, "the unit has 8 faults"), ("Stablingroad", 168, "more than 4 diagrams"), ("Stablingroad", 176, "today is the day 200"), ("Stablingroad", 190, "not at the depot 0, or the pit is taken"), ("Stablingroad", 195, "not at the depot 0, or the lathe is taken"), ("Stablingroad", 207, "a flat is turned, not mended"), ("Stablingroad", 228, "there is nothing like that to tell of a unit"), ("Stablingroad", 249, "there is nothing like that to tell of a fault"), ("Stablingroad", 253, "no such place")]
def aos : List String := ["Stablingroad$Row", "Stablingroad$Exam", "Stablingroad$Permit", "java/lang/Object"]
def SF (X : Xt) (U : State) : Prop := vx_Zq Bundle.tN "UNASSIGNED_STACK" Bundle.steD (Az X) U U.heap ∧ vx_Zq Bundle.tN "SUPPRESSED_SENTINEL" Bundle.listD (Az X) U U.heap ∧ va_Z "java/util/ArrayList" "DEFAULTCAPACITY_EMPTY_ELEMENTDATA" "[Ljava/lang/Object;" (.ref X.2.2.2.2) (Az X) U U.heap ∧ va_T (.object "java/lang/Object") X.2.2.2.2 0 (fun _ => .null) (Az X) U U.heap ∧ (∀ q ∈ strs, ∃ sa : Nat, vk_R q.1 q.2.1 q.2.2 sa U) ∧ (∀ w ∈ NW_, va_Nw w U) ∧ ∀ C ∈ aos, va_AO C U
theorem SF.warm {X : Xt} {s U : State} (h : SF X s) (hW : s.WarmedH U.vm) (hq : ∀ q : Nat, q < s.heap.size → ¬ Az X q → U.heap[q]? = s.heap[q]?) : SF X U := by
  obtain ⟨h1, h2, h3, h4, h5, h6, h7⟩ := h
  exact ⟨vx_Zq.moved hW.alike (h1.kept hq), vx_Zq.moved hW.alike (h2.kept hq), va_Z.moved hW.alike (h3.kept hq), va_T.moved hW.alike (h4.kept hq), fun q hm => (h5 q hm).elim (fun sa z => ⟨sa, vk_R.warm hW z⟩), fun w hw => nwk_warm (List.mem_filter.mp hw).2 hW (h6 w hw), fun C hC => (h7 C hC).moved hW.alike⟩
theorem SF.same {X : Xt} {s U : State} (h : SF X s) (hv : U.vm = s.vm) (hh : U.heap = s.heap) : SF X U := by
  obtain ⟨h1, h2, h3, h4, h5, h6, h7⟩ := h
  have hA : s.vm.Alike U.vm := by rw [hv]; exact Vm.Alike.refl s.vm
  rw [← hh] at h1 h2 h3 h4
  exact ⟨vx_Zq.moved hA h1, vx_Zq.moved hA h2, va_Z.moved hA h3, va_T.moved hA h4, fun q hm => (h5 q hm).elim (fun sa z => ⟨sa, vk_R.same hv z⟩), fun w hw => va_Nw.same (nwk_on (List.mem_filter.mp hw).2) hv.symm (h6 w hw), fun C hC => (h7 C hC).moved hA⟩
def SW (X : Xt) (ad : Ad) (σ : Wd) (U : State) : Prop := HW X ad σ U.heap ∧ va_K X.2.1 vwCl (tysX X) U ∧ SF X U
theorem SW.calling {X : Xt} {ad : Ad} {σ : Wd} {U : State} (h : SW X ad σ U) (g : JFrame) (mk : MethodId) (a : Array Value) : SW X ad σ (U.calling g mk a) :=
  ⟨h.1, va_K.moved (u := U) (U := U.calling g mk a) (Vm.Alike.refl U.vm) h.2.1, h.2.2.same rfl rfl⟩
/-! what a method's end says -/
def xc {α : Type} (kc : Nat × Nat) (r : α ⊕ String) : Nat := match r with
  | .inl _ => kc.1
  | .inr _ => 1
def xs {α : Type} (kc : Nat × Nat) (r : α ⊕ String) : Nat := match r with
  | .inl _ => kc.2
  | .inr _ => 6
def Pn (X : Xt) (ad : Ad) (σ : Wd) (avs : List Value) : Array Value → State → Prop := fun v U => v = avs.toArray ∧ SW X ad σ U
theorem Pn.blind {X : Xt} {ad : Ad} {σ : Wd} {avs : List Value} : FrameBlind (Pn X ad σ avs) := fun a _ g mk h => ⟨h.1, h.2.calling g mk a⟩
def Qn {α : Type} (X : Xt) (fin : Ad → Prop) (val : α → Option Value) (res : α ⊕ String) (σ' : Wd) : Array Value → State → Outcome → State → Prop := fun _ st o t =>
  (∃ v, res = .inl v ∧ o = .returned (val v) ∧ ∃ ad', fin ad' ∧ HW X ad' σ' t.heap) ∧ va_F (Az X) st t
def Qx {α : Type} (X : Xt) (fin : Ad → Prop) (res : α ⊕ String) (σ' : Wd) : String → State → State → Prop := fun E st t =>
  (res = .inr E ∧ ∃ ad', fin ad' ∧ HW X ad' σ' t.heap) ∧ va_F (Az X) st t
/-- a method, by what a function says of its answer -/
def NC {β : Type} (X : Xt) (fin : Ad → Prop) (y : MethodName) (cc : ByteArray) (nL : Nat) (rt : Option FieldType) (fr lo : Nat) (val : β → Option Value) (kc : Nat × Nat) (ad : Ad) (σ : Wd) (avs : List Value) (g : Option ((β ⊕ String) × Wd)) : Prop :=
  ∀ res σ', g = some (res, σ') → vx_Met X.1 y (Cond.code y cc nL rt :: G_) { frames := fr, cells := xc kc res, slots := xs kc res, locals := lo } (Pn X ad σ avs) (Qn X fin val res σ') (Qx X fin res σ') (xc kc res) (xs kc res) (Az X)
/-- what a body stands in -/
def Bod (X : Xt) (cc : ByteArray) (nL : Nat) (own : String) (rt : Option FieldType) (p : Program) (s : State) (m : MethodId) (args : Array Value) (meth : Method) (c : Code) : Prop :=
  p.tables.exec = Jvm.exec ∧ c.code = cc ∧ c.maxLocals = nL ∧ s.vm.findClass own = some m.cls ∧ (∀ w ∈ G_, w.before args s = true) ∧ meth.sig.returnType = rt ∧ meth.locks = false ∧ (∀ x ∈ c.exceptionTable.toList, False) ∧ va_K X.2.1 vwCl (tysX X) s ∧ SF X s ∧ X.1.stackTraces = false
def Bk {α : Type} (X : Xt) (fin : Ad → Prop) (cc : ByteArray) (nL : Nat) (own : String) (rt : Option FieldType) (fr lo : Nat) (val : α → Option Value) (kc cs : Nat × Nat) (ad : Ad) (σ : Wd) (pc : Nat) (lv : List (Nat × Value)) (st : List Value) (f : Option ((α ⊕ String) × Wd)) : Prop :=
  ∀ res σ', f = some (res, σ') → ∀ p e s m args below meth c, Bod X cc nL own rt p s m args meth c → ∀ H locs ls, HW X ad σ H → va_S (Az X) s.heap H locs → lv_has ls nL lv →
    W p X.1 e { frames := fr, cells := xc kc res, slots := xs kc res, locals := lo } s m args below meth c H locs cs.1 cs.2 (vx_MQ below (Qn X fin val res σ') (Qx X fin res σ') args s (xc kc res) (xs kc res) (Az X)) (F0 m pc ls st)
/-- a test that the machine would throw at -/
def gd {β : Type} (c : Prop) [Decidable c] (k : Option β) : Option β := if c then k else none
/-- a name for a state -/
def bd {β γ : Type} (x : β) (k : β → γ) : γ := k x
/-- behind a call -/
def bx {β α : Type} (g : Option ((β ⊕ String) × Wd)) (k : β → Wd → Option ((α ⊕ String) × Wd)) : Option ((α ⊕ String) × Wd) := match g with
  | none => none
  | some (.inl v, σ1) => k v σ1
  | some (.inr E, σ1) => some (.inr E, σ1)
theorem gd_some {β : Type} {c : Prop} [Decidable c] {k : Option β} {r : β} (h : gd c k = some r) : c ∧ k = some r := by
  unfold gd at h
  by_cases hc : c
  · rw [if_pos hc] at h; exact ⟨hc, h⟩
  · rw [if_neg hc] at h; cases h
theorem cell_0 (X : Xt) (ad : Ad) (σ : Wd) (i : Nat) : cellv X ad σ 0 i = .inr (10, [.ref (ad 1 0), .ref (ad 1 1), .ref (ad 4 0), .ref (ad 7 0), .ref (ad 12 0), .ref (ad 19 0), .int (σ.1 0 i 6), .int (σ.1 0 i 7), .int (σ.1 0 i 8), .int (σ.1 0 i 9)]) := rfl
theorem cell_1 (X : Xt) (ad : Ad) (σ : Wd) (i : Nat) : cellv X ad σ 1 i = .inr (0, [.int (σ.1 1 i 0), .ref (elA X ad σ i), .int (σ.1 1 i 2)]) := rfl
theorem cell_4 (X : Xt) (ad : Ad) (σ : Wd) (i : Nat) : cellv X ad σ 4 i = .inl (X.2.2.1 4, 3, .inr (.inr (.inr (.inr (fun j => some (ad 5 j)))))) := rfl
theorem cell_5 (X : Xt) (ad : Ad) (σ : Wd) (i : Nat) : cellv X ad σ 5 i = .inr (7, [.ref (ad 6 i), .int (σ.1 5 i 1)]) := rfl
theorem cell_6 (X : Xt) (ad : Ad) (σ : Wd) (i : Nat) : cellv X ad σ 6 i = .inl (X.2.2.1 0, 6, .inl (σ.1 6 i)) := rfl
theorem cell_7 (X : Xt) (ad : Ad) (σ : Wd) (i : Nat) : cellv X ad σ 7 i = .inr (8, [.ref (ad 8 0), .ref (ad 10 0)]) := rfl
theorem cell_8 (X : Xt) (ad : Ad) (σ : Wd) (i : Nat) : cellv X ad σ 8 i = .inl (X.2.2.1 2, 3, .inr (.inr (.inr (.inr (fun j => some (ad 9 j)))))) := rfl
theorem cell_9 (X : Xt) (ad : Ad) (σ : Wd) (i : Nat) : cellv X ad σ 9 i = .inr (2, [.int (σ.1 9 i 0), .int (σ.1 9 i 1), .int (σ.1 9 i 2)]) := rfl
theorem cell_10 (X : Xt) (ad : Ad) (σ : Wd) (i : Nat) : cellv X ad σ 10 i = .inl (X.2.2.1 3, 4, .inr (.inr (.inr (.inr (fun j => some (ad 11 j)))))) := rfl
theorem cell_11 (X : Xt) (ad : Ad) (σ : Wd) (i : Nat) : cellv X ad σ 11 i = .inr (6, [.int (σ.1 11 i 0), .int (σ.1 11 i 1)]) := rfl
theorem cell_12 (X : Xt) (ad : Ad) (σ : Wd) (i : Nat) : cellv X ad σ 12 i = .inr (4, [.ref (ad 13 0), .ref (ad 14 0), .ref (ad 15 0), .ref (ad 16 0), .ref (ad 17 0), .ref (ad 18 0), .int (σ.1 12 i 6), .int (σ.1 12 i 7)]) := rfl
theorem cell_13 (X : Xt) (ad : Ad) (σ : Wd) (i : Nat) : cellv X ad σ 13 i = .inl (X.2.2.1 0, 6, .inl (σ.1 13 i)) := rfl
theorem cell_14 (X : Xt) (ad : Ad) (σ : Wd) (i : Nat) : cellv X ad σ 14 i = .inl (X.2.2.1 0, 6, .inl (σ.1 14 i)) := rfl
theorem cell_15 (X : Xt) (ad : Ad) (σ : Wd) (i : Nat) : cellv X ad σ 15 i = .inl (X.2.2.1 0, 6, .inl (σ.1 15 i)) := rfl
theorem cell_16 (X : Xt) (ad : Ad) (σ : Wd) (i : Nat) : cellv X ad σ 16 i = .inl (X.2.2.1 0, 6, .inl (σ.1 16 i)) := rfl
theorem cell_17 (X : Xt) (ad : Ad) (σ : Wd) (i : Nat) : cellv X ad σ 17 i = .inl (X.2.2.1 0, 6, .inl (σ.1 17 i)) := rfl
theorem cell_18 (X : Xt) (ad : Ad) (σ : Wd) (i : Nat) : cellv X ad σ 18 i = .inl (X.2.2.1 0, 448, .inl (σ.1 18 i)) := rfl
theorem cell_19 (X : Xt) (ad : Ad) (σ : Wd) (i : Nat) : cellv X ad σ 19 i = .inr (5, [.ref (ad 20 0)]) := rfl
theorem cell_20 (X : Xt) (ad : Ad) (σ : Wd) (i : Nat) : cellv X ad σ 20 i = .inl (X.2.2.1 0, 1200, .inl (σ.1 20 i)) := rfl
theorem cell_21 (X : Xt) (ad : Ad) (σ : Wd) (i : Nat) : cellv X ad σ 21 i = .inr (9, [.int (σ.1 21 i 0), .ref (ad 1 (i + 2)), .int (σ.1 21 i 2), .int (σ.1 21 i 3), .ref (ad 22 i), .ref (ad 23 i), .ref (ad 24 i)]) := rfl
theorem cell_22 (X : Xt) (ad : Ad) (σ : Wd) (i : Nat) : cellv X ad σ 22 i = .inl (X.2.2.1 0, 3, .inl (σ.1 22 i)) := rfl
theorem cell_23 (X : Xt) (ad : Ad) (σ : Wd) (i : Nat) : cellv X ad σ 23 i = .inl (X.2.2.1 0, 3, .inl (σ.1 23 i)) := rfl
theorem cell_24 (X : Xt) (ad : Ad) (σ : Wd) (i : Nat) : cellv X ad σ 24 i = .inl (X.2.2.1 0, 4, .inl (σ.1 24 i)) := rfl
theorem cell_25 (X : Xt) (ad : Ad) (σ : Wd) (i : Nat) : cellv X ad σ 25 i = .inr (1, [.int (σ.1 25 i 0), .int (σ.1 25 i 1), .int (σ.1 25 i 2), .int (σ.1 25 i 3), .int (σ.1 25 i 4), .int (σ.1 25 i 5)]) := rfl
theorem cell_26 (X : Xt) (ad : Ad) (σ : Wd) (i : Nat) : cellv X ad σ 26 i = .inr (3, [.int (σ.1 26 i 0), .int (σ.1 26 i 1), .int (σ.1 26 i 2), .int (σ.1 26 i 3)]) := rfl
theorem cell_27 (X : Xt) (ad : Ad) (σ : Wd) (i : Nat) : cellv X ad σ 27 i = .inl (X.2.2.1 5, 10, .inr (.inr (.inr (.inr (elF ad σ i))))) := rfl
theorem cell_71 (X : Xt) (ad : Ad) (σ : Wd) (i : Nat) : cellv X ad σ 71 i = .inl (X.2.2.1 0, 64, .inl (σ.1 71 i)) := rfl
theorem cell_72 (X : Xt) (ad : Ad) (σ : Wd) (i : Nat) : cellv X ad σ 72 i = .inl (X.2.2.1 0, 64, .inl (σ.1 72 i)) := rfl
theorem cell_73 (X : Xt) (ad : Ad) (σ : Wd) (i : Nat) : cellv X ad σ 73 i = .inl (X.2.2.1 0, 64, .inl (σ.1 73 i)) := rfl
theorem cell_74 (X : Xt) (ad : Ad) (σ : Wd) (i : Nat) : cellv X ad σ 74 i = .inl (X.2.2.1 0, 16, .inl (σ.1 74 i)) := rfl
theorem cell_75 (X : Xt) (ad : Ad) (σ : Wd) (i : Nat) : cellv X ad σ 75 i = .inl (X.2.2.1 0, 18, .inl (σ.1 75 i)) := rfl
theorem cell_76 (X : Xt) (ad : Ad) (σ : Wd) (i : Nat) : cellv X ad σ 76 i = .inl (X.2.2.1 0, 17, .inl (σ.1 76 i)) := rfl
theorem cell_77 (X : Xt) (ad : Ad) (σ : Wd) (i : Nat) : cellv X ad σ 77 i = .inl (X.2.2.1 0, 3, .inl (σ.1 77 i)) := rfl
theorem ia_6 (X : Xt) (ad : Ad) (i : Nat) : ∀ σ, cellv X ad σ 6 i = .inl (X.2.2.1 0, 6, .inl (σ.1 6 i)) := fun _ => rfl
theorem ia_13 (X : Xt) (ad : Ad) (i : Nat) : ∀ σ, cellv X ad σ 13 i = .inl (X.2.2.1 0, 6, .inl (σ.1 13 i)) := fun _ => rfl
theorem ia_14 (X : Xt) (ad : Ad) (i : Nat) : ∀ σ, cellv X ad σ 14 i = .inl (X.2.2.1 0, 6, .inl (σ.1 14 i)) := fun _ => rfl
theorem ia_15 (X : Xt) (ad : Ad) (i : Nat) : ∀ σ, cellv X ad σ 15 i = .inl (X.2.2.1 0, 6, .inl (σ.1 15 i)) := fun _ => rfl
theorem ia_16 (X : Xt) (ad : Ad) (i : Nat) : ∀ σ, cellv X ad σ 16 i = .inl (X.2.2.1 0, 6, .inl (σ.1 16 i)) := fun _ => rfl
theorem ia_17 (X : Xt) (ad : Ad) (i : Nat) : ∀ σ, cellv X ad σ 17 i = .inl (X.2.2.1 0, 6, .inl (σ.1 17 i)) := fun _ => rfl
theorem ia_18 (X : Xt) (ad : Ad) (i : Nat) : ∀ σ, cellv X ad σ 18 i = .inl (X.2.2.1 0, 448, .inl (σ.1 18 i)) := fun _ => rfl
theorem ia_20 (X : Xt) (ad : Ad) (i : Nat) : ∀ σ, cellv X ad σ 20 i = .inl (X.2.2.1 0, 1200, .inl (σ.1 20 i)) := fun _ => rfl
theorem ia_22 (X : Xt) (ad : Ad) (i : Nat) : ∀ σ, cellv X ad σ 22 i = .inl (X.2.2.1 0, 3, .inl (σ.1 22 i)) := fun _ => rfl
theorem ia_23 (X : Xt) (ad : Ad) (i : Nat) : ∀ σ, cellv X ad σ 23 i = .inl (X.2.2.1 0, 3, .inl (σ.1 23 i)) := fun _ => rfl
theorem ia_24 (X : Xt) (ad : Ad) (i : Nat) : ∀ σ, cellv X ad σ 24 i = .inl (X.2.2.1 0, 4, .inl (σ.1 24 i)) := fun _ => rfl
theorem ia_71 (X : Xt) (ad : Ad) (i : Nat) : ∀ σ, cellv X ad σ 71 i = .inl (X.2.2.1 0, 64, .inl (σ.1 71 i)) := fun _ => rfl
theorem ia_72 (X : Xt) (ad : Ad) (i : Nat) : ∀ σ, cellv X ad σ 72 i = .inl (X.2.2.1 0, 64, .inl (σ.1 72 i)) := fun _ => rfl
theorem ia_73 (X : Xt) (ad : Ad) (i : Nat) : ∀ σ, cellv X ad σ 73 i = .inl (X.2.2.1 0, 64, .inl (σ.1 73 i)) := fun _ => rfl
theorem ia_74 (X : Xt) (ad : Ad) (i : Nat) : ∀ σ, cellv X ad σ 74 i = .inl (X.2.2.1 0, 16, .inl (σ.1 74 i)) := fun _ => rfl
theorem ia_75 (X : Xt) (ad : Ad) (i : Nat) : ∀ σ, cellv X ad σ 75 i = .inl (X.2.2.1 0, 18, .inl (σ.1 75 i)) := fun _ => rfl
theorem ia_76 (X : Xt) (ad : Ad) (i : Nat) : ∀ σ, cellv X ad σ 76 i = .inl (X.2.2.1 0, 17, .inl (σ.1 76 i)) := fun _ => rfl
theorem ia_77 (X : Xt) (ad : Ad) (i : Nat) : ∀ σ, cellv X ad σ 77 i = .inl (X.2.2.1 0, 3, .inl (σ.1 77 i)) := fun _ => rfl
