section CBK
variable {α β : Type} {X : Xt} {fin fin' : Ad → Prop} {cc bytes : ByteArray} {nL maxL : Nat} {own : String} {rt rt' : Option FieldType} {fr lo fr' lo' : Nat} {val : α → Option Value} {val' : β → Option Value} {kc : Nat × Nat} {ad : Ad} {σ : Wd} {pc : Nat} {lv : List (Nat × Value)} {st stack : List Value} {g : Option ((β ⊕ String) × Wd)} {k : β → Wd → Option ((α ⊕ String) × Wd)}
theorem bx_cases {res : α ⊕ String} {σ' : Wd} (h : bx g k = some (res, σ')) : (∃ v σ1, g = some (.inl v, σ1) ∧ k v σ1 = some (res, σ')) ∨ ∃ E, g = some (.inr E, σ') ∧ res = .inr E := by
  unfold bx at h
  match g, h with
  | some (.inl v, σ1), h => exact Or.inl ⟨v, σ1, rfl, h⟩
  | some (.inr E, σ1), h => cases h; exact Or.inr ⟨E, rfl, rfl⟩
/-- behind a call that came back or threw -/
theorem r_calls (hfin' : ∀ ad', fin' ad' → ad' = ad) (hfa : fin ad)
    (hrun : ∀ res1 σ1, g = some (res1, σ1) → ∀ p e s m args below meth c, Bod X cc nL own rt p s m args meth c → ∀ (R : Room), fr ≤ R.frames → lo ≤ R.locals → xc (0, 0) res1 ≤ R.cells → xs (0, 0) res1 ≤ R.slots → ∀ H locs ls, HW X ad σ H → va_S (Az X) s.heap H locs → lv_has ls nL lv → ∃ a : Array Value,
      vx_Run p X.1 e R s m args below meth c H locs 0 0 (xc (0, 0) res1) (xs (0, 0) res1) (F0 m pc ls stack) st (Qn X fin' val' res1 σ1 a) (Qx X fin' res1 σ1) (Az X))
    (kk : ∀ v σ1, Bk X fin cc nL own rt fr lo val kc (0, 0) ad σ1 (pc + 3) lv ((val' v).toList ++ st) (k v σ1)) : Bk X fin cc nL own rt fr lo val kc (0, 0) ad σ pc lv stack (bx g k) := by
  intro res σ' h p e s m args below meth c B H locs ls hH hS hl9
  rcases bx_cases h with ⟨v, σ1, hg, hk⟩ | ⟨E, hg, rfl⟩
  · obtain ⟨a, hr⟩ := hrun _ _ hg p e s m args below meth c B { frames := fr, cells := xc kc res, slots := xs kc res, locals := lo } (Nat.le_refl _) (Nat.le_refl _) (Nat.zero_le _) (Nat.zero_le _) H locs ls hH hS hl9
    intro T hT Y
    rcases hr T hT Y with ⟨v0, st0, t, T', L, h0, Y', hL, e1, e2, ⟨⟨v', hv1, hv2, ad', hf', hsw⟩, hF⟩, hgo⟩ | ⟨q, st0, t, T', L, E, ce, h0, Y', hL, e1, e2, ⟨⟨hx, -⟩, -⟩, -⟩
    · cases hv1
      cases hv2
      have := hfin' ad' hf'
      subst this
      obtain ⟨k1, k2, k3⟩ := vx_keep h0 e1 hS (fun _ _ z => z) (fun _ z => z) hL hF
      obtain ⟨t2, a1, b1⟩ := kk v σ1 res σ' hk p e s m args below meth c B T'.heap (locs ++ L) ls (by rw [e1]; exact hsw) k3 hl9 T' rfl Y'
      exact ⟨t2, hgo t2 a1, b1⟩
    · cases hx
  · obtain ⟨a, hr⟩ := hrun _ _ hg p e s m args below meth c B { frames := fr, cells := 1, slots := 6, locals := lo } (Nat.le_refl _) (Nat.le_refl _) (Nat.le_refl _) (Nat.le_refl _) H locs ls hH hS hl9
    intro T hT Y
    rcases hr T hT Y with ⟨v0, st0, t, T', L, h0, Y', hL, e1, e2, ⟨⟨v', hv1, -⟩, -⟩, -⟩ | ⟨q, st0, t, T', L, E', ce, h0, Y', hL, e1, e2, ⟨⟨hx, ad', hf', hsw⟩, hF⟩, hce, hcv, hcl, hst⟩
    · cases hv1
    · cases hx
      have := hfin' ad' hf'
      subst this
      obtain ⟨k1, k2, k3⟩ := vx_keep h0 e1 hS (fun _ _ z => z) (fun _ z => z) hL hF
      have hout : vx_W p X.1 e { frames := fr, cells := 1, slots := 6, locals := lo } s m args below meth c T'.heap (locs ++ L) (0 + 1) (0 + 6) (vx_MQ below (Qn X fin val (Sum.inr E : α ⊕ String) σ') (Qx X fin (Sum.inr E : α ⊕ String) σ') args s 1 6 (Az X)) (F0 m pc ls st) q :=
        vx_out (fun x hx => absurd (B.2.2.2.2.2.2.2.1 x hx) id) B.2.2.2.2.2.2.1 (by rw [e1]; exact hce) hcv hcl (fun t2 ht2 hA2 => by
          exact ⟨⟨rfl, ad', hfa, by rw [ht2, e1]; exact hsw⟩, k3.F ht2⟩) k3.2.2 (Nat.le_refl _) (Nat.le_refl _)
      obtain ⟨t2, a1, b1⟩ := hout T' rfl Y'
      exact ⟨t2, hst.trans a1, b1⟩
theorem SW.of {X : Xt} {ad : Ad} {σ : Wd} {cc : ByteArray} {nL : Nat} {own : String} {rt : Option FieldType} {p : Program} {s : State} {m : MethodId} {args : Array Value} {meth : Method} {c : Code} {H : Heap} {locs : List Loc} {U : State} (B : Bod X cc nL own rt p s m args meth c) (hH : HW X ad σ H) (hS : va_S (Az X) s.heap H locs) (hU : U.heap = H) (hW : s.WarmedH U.vm) : SW X ad σ U :=
  ⟨by rw [hU]; exact hH, va_K.moved hW.alike B.2.2.2.2.2.2.2.2.1, B.2.2.2.2.2.2.2.2.2.1.warm hW (by rw [hU]; exact hS.2.1)⟩
theorem Bod.fix {X : Xt} {cc : ByteArray} {nL : Nat} {own : String} {rt : Option FieldType} {p : Program} {s : State} {m : MethodId} {args : Array Value} {meth : Method} {c : Code} (B : Bod X cc nL own rt p s m args meth c) : CallFix p m c cc nL s args G_ own := ⟨B.1, B.2.1, B.2.2.1, B.2.2.2.1, B.2.2.2.2.1⟩
theorem r_callV {y : MethodName} {C : String} {T : u_T} {N ci t i index n : Nat} {fs : List Value} {As : List Value} (hc : cellv X ad σ t i = .inr (ci, fs)) (hl : lvp σ t i) (hci : vwCl[ci]? = some (C, T, N)) (nc : NC X fin' y bytes maxL rt' fr' lo' val' (0, 0) ad σ (.ref (ad t i) :: As) g) (hfin' : ∀ ad', fin' ad' → ad' = ad) (hfa : fin ad)
    (hy : y.cls = C ∧ y.cls ≠ "java/lang/invoke/MethodHandle" ∧ y.cls ≠ "java/lang/invoke/VarHandle" ∧ (parseMethodDescriptor y.desc).map (fun d => d.parameters.length) = some n)
    (w1 : Cond.methodLink own index y ∈ G_) (w2 : Cond.instanceMethod y ∈ G_) (w3 : Cond.selects y.cls y y ∈ G_) (w4 : Cond.initialized y.cls ∈ G_) (w5 : Cond.code y bytes maxL rt' ∈ G_)
    (hn : As.length = n) (hst : stack = As.reverse ++ .ref (ad t i) :: st) (hsum : (st.map fun v => v.category).sum ≤ 8) (hroom : fr' + 1 ≤ fr ∧ 8 + (maxL + 11) + lo' ≤ lo) (hd : decode cc pc = .ok (.invokevirtual index, 3))
    (kk : ∀ v σ1, Bk X fin cc nL own rt fr lo val kc (0, 0) ad σ1 (pc + 3) lv ((val' v).toList ++ st) (k v σ1)) : Bk X fin cc nL own rt fr lo val kc (0, 0) ad σ pc lv stack (bx g k) := by
  refine r_calls hfin' hfa (fun res1 σ1 hg p e s m args below meth c B R hR1 hR2 hR3 hR4 H locs ls hH hS hl9 => ⟨(Value.ref (ad t i) :: As).toArray, ?_⟩) kk
  have hat : va_at X.2.1 vwCl (ad t i, .inr (ci, fs)) H := by rw [← hc]; exact (hH.1 t i hl).1
  have hts := B.2.2.2.2.1
  have hG : GoodIn G_ (wsV own index y.cls y (Cond.code y bytes maxL rt' :: G_)) := fun w hw => by
    have h1 : w ∈ G_ := by
      simp only [wsV, List.cons_append, List.nil_append, List.mem_cons] at hw
      rcases hw with rfl | rfl | rfl | rfl | rfl | h
      · exact w1
      · exact w2
      · exact w3
      · exact w4
      · exact w5
      · exact h
    exact ⟨h1, good_of_word (G_good w h1)⟩
  refine vx_runV B.fix (nc res1 σ1 hg) (C := y.cls) (cwV n hts hG rfl rfl rfl ⟨rfl, hy.2⟩ ⟨Nat.le_trans hroom.1 hR1, Nat.le_trans hroom.2 hR2⟩) ⟨Pn.blind, ?_, fun U hU hW => ⟨rfl, SW.of B hH hS hU hW⟩⟩ rfl hn hl9.1 hst (lv_room hsum) hd ⟨by rw [Nat.zero_add]; exact hR3, by rw [Nat.zero_add]; exact hR4⟩
  have hr := va_recv (q := (C, T, N)) (q0 := 0) B.2.2.2.2.2.2.2.2.1 (va_P1 hat) hci rfl
  rw [hy.1]
  exact hr
theorem r_callS {y : MethodName} {index n : Nat} {As : List Value} (nc : NC X fin' y bytes maxL rt' fr' lo' val' (0, 0) ad σ As g) (hfin' : ∀ ad', fin' ad' → ad' = ad) (hfa : fin ad)
    (hy : y.cls ≠ "java/lang/invoke/MethodHandle" ∧ y.cls ≠ "java/lang/invoke/VarHandle" ∧ (parseMethodDescriptor y.desc).map (fun d => d.parameters.length) = some n)
    (w1 : Cond.methodLink own index y ∈ G_) (w2 : Cond.static y ∈ G_) (w4 : Cond.initialized y.cls ∈ G_) (w5 : Cond.code y bytes maxL rt' ∈ G_)
    (hn : As.length = n) (hst : stack = As.reverse ++ st) (hsum : (st.map fun v => v.category).sum ≤ 8) (hroom : fr' + 1 ≤ fr ∧ 8 + (maxL + 11) + lo' ≤ lo) (hd : decode cc pc = .ok (.invokestatic index, 3))
    (kk : ∀ v σ1, Bk X fin cc nL own rt fr lo val kc (0, 0) ad σ1 (pc + 3) lv ((val' v).toList ++ st) (k v σ1)) : Bk X fin cc nL own rt fr lo val kc (0, 0) ad σ pc lv stack (bx g k) := by
  refine r_calls hfin' hfa (fun res1 σ1 hg p e s m args below meth c B R hR1 hR2 hR3 hR4 H locs ls hH hS hl9 => ⟨As.toArray, ?_⟩) kk
  have hts := B.2.2.2.2.1
  have hG : GoodIn G_ (va_wsS own index y (Cond.code y bytes maxL rt' :: G_)) := fun w hw => by
    have h1 : w ∈ G_ := by
      simp only [va_wsS, List.cons_append, List.nil_append, List.mem_cons] at hw
      rcases hw with rfl | rfl | rfl | rfl | h
      · exact w1
      · exact w2
      · exact w4
      · exact w5
      · exact h
    exact ⟨h1, good_of_word (G_good w h1)⟩
  exact vx_runS B.fix (nc res1 σ1 hg) (va_cwS n hts hG rfl rfl rfl hy ⟨Nat.le_trans hroom.1 hR1, Nat.le_trans hroom.2 hR2⟩) ⟨Pn.blind, fun U hU hW => ⟨rfl, SW.of B hH hS hU hW⟩⟩ rfl hn hl9.1 hst (lv_room hsum) hd ⟨by rw [Nat.zero_add]; exact hR3, by rw [Nat.zero_add]; exact hR4⟩
theorem str_at {X : Xt} {s : State} (h : SF X s) {own text : String} {is : Nat} (hm : (own, is, text) ∈ strs) : ∃ sa : Nat, vk_R own is text sa s := h.2.2.2.2.1 _ hm
theorem nw_at {X : Xt} {s : State} (h : SF X s) {args : Array Value} {w : Cond} (hm : w ∈ NW_) : w.before args s = true := va_Nw.use (nwk_on (List.mem_filter.mp hm).2) (h.2.2.2.2.2.1 w hm)
end CBK
section TBK
variable {α : Type} {X : Xt} {fin : Ad → Prop} {cc : ByteArray} {nL : Nat} {own : String} {rt : Option FieldType} {fr lo : Nat} {val : α → Option Value} {kc : Nat × Nat} {ad : Ad} {σ : Wd} {pc : Nat} {lv : List (Nat × Value)} {st : List Value}
/-- the words of a throw, once for a place of the pool and a kind -/
def AtOk (own : String) (ik ic : Nat) (cls : String) (names : List String) : Prop := (∀ w ∈ (vx_atS own ic cls names).filter goodWord, w ∈ G_) ∧ (∀ w ∈ (vx_atS own ic cls names).filter (fun w => !goodWord w), w ∈ NW_) ∧ (∀ w ∈ Cond.classLink own ik cls :: Cond.initialized cls :: vx_atS own ic cls names, vx_ot w = true) ∧ Bundle.fit cls = true ∧ (∀ n ∈ names, Bundle.fit n = true) ∧ Cond.classLink own ik cls ∈ G_ ∧ Cond.initialized cls ∈ G_
theorem r_throw {text cls : String} {names : List String} {ik is ic : Nat} (hat : AtOk own ik ic cls names) (hstr : (own, is, text) ∈ strs) (hfa : fin ad)
    (d0 : decode cc pc = .ok (.new ik, 3)) (d3 : decode cc (pc + 3) = .ok (.dup, 1)) (d4 : decode cc (pc + 4) = .ok (.ldc is, 2)) (d6 : decode cc (pc + 6) = .ok (.invokespecial ic, 3)) (d9 : decode cc (pc + 9) = .ok (.athrow, 1))
    (hRf : names.length + 3 < fr) (hRl : (st.map fun v => v.category).sum + (13 * (names.length + 1) + 43) ≤ lo) : Bk X fin cc nL own rt fr lo val kc (0, 0) ad σ pc lv st (some (.inr cls, σ)) := by
  intro res σ' h p e s m args below meth c B H locs ls hH hS hl9
  cases h
  obtain ⟨a1, a2, a3, a4, a5, a6, a7⟩ := hat
  have hSF := B.2.2.2.2.2.2.2.2.2.1
  obtain ⟨sa, hsa⟩ := str_at hSF hstr
  have hw : ∀ w ∈ vx_atS own ic cls names, w.before args s = true := vx_hat (B := NW_) (fun w hw => B.2.2.2.2.1 w (a1 w hw)) a2 (fun w hw => nw_at hSF hw)
  exact vx_throwS B.1 B.2.1 B.2.2.2.2.2.2.2.2.2.2 B.2.2.2.1 a4 a5 (B.2.2.2.2.1 _ a6) (B.2.2.2.2.1 _ a7) hsa hw a3 hSF.1 hSF.2.1 hS (hl9.1.trans B.2.2.1.symm) d0 d3 d4 d6 d9 (fun x hx => absurd (B.2.2.2.2.2.2.2.1 x hx) id) hRf hRl (Nat.le_refl _) (Nat.le_refl _) B.2.2.2.2.2.2.1
    (fun t hA hz hq => ⟨⟨rfl, ad, hfa, hH.kept (fun t' i' hlv => hq _ ((hH.1 t' i' hlv).1.lt))⟩, ⟨Nat.le_trans hS.1 hz, fun q h1 h2 => by rw [hq q (Nat.lt_of_lt_of_le h1 hS.1)]; exact hS.2.1 q h1 h2⟩⟩) hS.2.2 (Nat.le_refl _) (Nat.le_refl _)
theorem r_throwW {text cls : String} {names : List String} {ik is ic : Nat} (hat : AtOk own ik ic cls names) (hstr : (own, is, text) ∈ strs) (hfa : fin ad)
    (d0 : decode cc pc = .ok (.new ik, 3)) (d3 : decode cc (pc + 3) = .ok (.dup, 1)) (d4 : decode cc (pc + 4) = .ok (.ldc_w is, 3)) (d7 : decode cc (pc + 7) = .ok (.invokespecial ic, 3)) (d10 : decode cc (pc + 10) = .ok (.athrow, 1))
    (hRf : names.length + 3 < fr) (hRl : (st.map fun v => v.category).sum + (13 * (names.length + 1) + 43) ≤ lo) : Bk X fin cc nL own rt fr lo val kc (0, 0) ad σ pc lv st (some (.inr cls, σ)) := by
  intro res σ' h p e s m args below meth c B H locs ls hH hS hl9
  cases h
  obtain ⟨a1, a2, a3, a4, a5, a6, a7⟩ := hat
  have hSF := B.2.2.2.2.2.2.2.2.2.1
  obtain ⟨sa, hsa⟩ := str_at hSF hstr
  have hw : ∀ w ∈ vx_atS own ic cls names, w.before args s = true := vx_hat (B := NW_) (fun w hw => B.2.2.2.2.1 w (a1 w hw)) a2 (fun w hw => nw_at hSF hw)
  exact vx_throwSW B.1 B.2.1 B.2.2.2.2.2.2.2.2.2.2 B.2.2.2.1 a4 a5 (B.2.2.2.2.1 _ a6) (B.2.2.2.2.1 _ a7) hsa hw a3 hSF.1 hSF.2.1 hS (hl9.1.trans B.2.2.1.symm) d0 d3 d4 d7 d10 (fun x hx => absurd (B.2.2.2.2.2.2.2.1 x hx) id) hRf hRl (Nat.le_refl _) (Nat.le_refl _) B.2.2.2.2.2.2.1
    (fun t hA hz hq => ⟨⟨rfl, ad, hfa, hH.kept (fun t' i' hlv => hq _ ((hH.1 t' i' hlv).1.lt))⟩, ⟨Nat.le_trans hS.1 hz, fun q h1 h2 => by rw [hq q (Nat.lt_of_lt_of_le h1 hS.1)]; exact hS.2.1 q h1 h2⟩⟩) hS.2.2 (Nat.le_refl _) (Nat.le_refl _)
theorem r_cast {t i ci index N : Nat} {C nm : String} {T : u_T} {fs : List Value} (hl : lvp σ t i) (hc : cellv X ad σ t i = .inr (ci, fs)) (hci : vwCl[ci]? = some (C, T, N)) (w1 : Cond.classLink own index nm ∈ G_) (w2 : Cond.castable C nm ∈ NW_) (hd : decode cc pc = .ok (.checkcast index, 3)) {f : Option ((α ⊕ String) × Wd)} {cs : Nat × Nat}
    (kk : Bk X fin cc nL own rt fr lo val kc cs ad σ (pc + 3) lv (.ref (ad t i) :: st) f) : Bk X fin cc nL own rt fr lo val kc cs ad σ pc lv (.ref (ad t i) :: st) f := by
  intro res σ' h p e s m args below meth c B H locs ls hH hS hl9
  have hat : va_at X.2.1 vwCl (ad t i, .inr (ci, fs)) H := by rw [← hc]; exact (hH.1 t i hl).1
  exact va_castY B.1 B.2.1 B.2.2.2.1 (B.2.2.2.2.1 _ w1) (B.2.2.2.2.2.2.2.2.2.1.2.2.2.2.2.1 _ w2) (va_recv (q := (C, T, N)) (q0 := 0) B.2.2.2.2.2.2.2.2.1 (va_P1 hat) hci rfl) hd (kk res σ' h p e s m args below meth c B H locs ls hH hS hl9)
theorem r_mmin {index : Nat} {x y : Int32} {f : Option ((α ⊕ String) × Wd)} (w1 : Cond.methodLink own index Lib.Math.min.name ∈ G_) (w2 : Cond.static Lib.Math.min.name ∈ G_) (w3 : Cond.initialized "java/lang/Math" ∈ G_) (w4 : Cond.code Lib.Math.min.name Lib.Math.min.code 2 (some .int) ∈ G_) (hf : 1 ≤ fr) (hlo : (st.map fun v => v.category).sum + 13 ≤ lo) (hd : decode cc pc = .ok (.invokestatic index, 3))
    (kk : Bk X fin cc nL own rt fr lo val kc (0, 0) ad σ (pc + 3) lv (.int (if y < x then y else x) :: st) f) : Bk X fin cc nL own rt fr lo val kc (0, 0) ad σ pc lv (.int y :: .int x :: st) f := by
  intro res σ' h p e s m args below meth c B H locs ls hH hS hl9
  exact va_mmin B.1 B.2.1 (B.2.2.1.trans hl9.1.symm) B.2.2.2.1 (B.2.2.2.2.1 _ w1) (B.2.2.2.2.1 _ w2) (B.2.2.2.2.1 _ w3) (B.2.2.2.2.1 _ w4) hf hlo (Nat.zero_le _) (Nat.zero_le _) hd (kk res σ' h p e s m args below meth c B H locs ls hH hS hl9)
theorem r_mmax {index : Nat} {x y : Int32} {f : Option ((α ⊕ String) × Wd)} (w1 : Cond.methodLink own index Lib.Math.max.name ∈ G_) (w2 : Cond.static Lib.Math.max.name ∈ G_) (w3 : Cond.initialized "java/lang/Math" ∈ G_) (w4 : Cond.code Lib.Math.max.name Lib.Math.max.code 2 (some .int) ∈ G_) (hf : 1 ≤ fr) (hlo : (st.map fun v => v.category).sum + 13 ≤ lo) (hd : decode cc pc = .ok (.invokestatic index, 3))
    (kk : Bk X fin cc nL own rt fr lo val kc (0, 0) ad σ (pc + 3) lv (.int (if x < y then y else x) :: st) f) : Bk X fin cc nL own rt fr lo val kc (0, 0) ad σ pc lv (.int y :: .int x :: st) f := by
  intro res σ' h p e s m args below meth c B H locs ls hH hS hl9
  exact va_mmax B.1 B.2.1 (B.2.2.1.trans hl9.1.symm) B.2.2.2.1 (B.2.2.2.2.1 _ w1) (B.2.2.2.2.1 _ w2) (B.2.2.2.2.1 _ w3) (B.2.2.2.2.1 _ w4) hf hlo (Nat.zero_le _) (Nat.zero_le _) hd (kk res σ' h p e s m args below meth c B H locs ls hH hS hl9)
end TBK
