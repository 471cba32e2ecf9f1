/-- what the law's first lines stand in -/
def en_C0 (X : Xt) (b L : Nat) (xs : Nat → Int32) : C0t := fun p _ s m args _ meth c => args = #[Value.ref b] ∧ LC X b L xs p s m meth c
def en_Q (b : Nat) : State → MethodId → Array Value → List Frame → State → Prop := fun s _ _ below => lw_Z below #[Value.ref b] s
theorem en_ctx {X : Xt} {b L : Nat} {xs : Nat → Int32} : Ctx X (Az X) cL_law RL 7 (en_C0 X b L xs) := by
  intro p e s m args below meth c B
  obtain ⟨rfl, b1, b2, b3, b4, b5, b6, b7, b8, b9, b10, b11, b12, b13, b14⟩ := B
  exact ⟨b1, b2, b3, b4, b5, b6, b7, fun q hq => by show X.2.2.2.1 ≤ q; rw [b12]; exact hq, fun q hq => hq⟩
theorem en_walk {X : Xt} {b L : Nat} {xs : Nat → Int32} (hst : X.1.stackTraces = false) (h : ∀ ad, Lw X b L xs (61, 3406) ad W0 23 (lvB b ad (Int32.ofNat (6 * 0))) []) : Bw X (en_C0 X b L xs) room_1 (en_Q b) (Az X) 7 [] (0, 0) 0 [(0, .ref b)] [] := by
  have hC := en_ctx (X := X) (b := b) (L := L) (xs := xs)
  refine w_new (ci := 10) (fs := [.null, .null, .null, .null, .null, .null, .int 0, .int 0, .int 0, .int 0]) hC tyX9 tyX9_ok rfl in_10 en_c9 en_i9 en_n9 (by decide) (Nat.le_of_ble_eq_true rfl) (Nat.le_of_ble_eq_true rfl) dL_law_0 (fun x0 => ?_)
  refine w_dup rfl hC dL_law_3 ?_
  refine w_callI (wr := []) (n := 0) (As := []) hC [0] [] rfl rfl (by decide) (by decide) (by decide) (ci_X9_init X hst _) ⟨by decide, by decide, by decide +kernel⟩ rfl en_l9 en_m9 en_n9 en_k9 rfl rfl (Nat.le_of_ble_eq_true rfl) ⟨by decide, by decide⟩ ⟨Nat.le_of_ble_eq_true rfl, Nat.le_of_ble_eq_true rfl⟩ dL_law_4 (fun w9 h9 => ?_)
  obtain ⟨a1, a3, a5, a6, a7, a8, a9, a10, a11, a12, a13, a14, a15, a17, a18, a19, a20, a21, a22, a23, a25, a26, a28, a29, a31, a32, a34, a35, rfl⟩ := h9
  refine w_astore_n [(1, .ref x0), (0, .ref b)] rfl (by decide) hC dL_law_7 ?_
  refine w_new (ci := 11) (fs := (.int 0 :: .int 0 :: .int 0 :: .int 0 :: .int 0 :: .int 0 :: .null :: .null :: .null :: .null :: .null :: .null :: .null :: .null :: .null :: .null :: .null :: .null :: .null :: .int 0 :: .null :: .null :: .null :: .null :: .null :: .null :: .null :: .null :: .null :: .null :: .null :: .null :: .null :: .null :: .null :: .null :: .null :: .int 0 :: .int 0 :: [])) hC tyX10 tyX10_ok rfl in_11 en_c10 en_i10 en_n10 (by decide) (Nat.le_of_ble_eq_true rfl) (Nat.le_of_ble_eq_true rfl) dL_law_8 (fun y0 => ?_)
  refine w_dup rfl hC dL_law_11 ?_
  refine w_callI (wr := [_, _, _, _, _, _, _, _, _, _, _, _, _, _, _, _, _, _, _, _, _, _, _, _, _, _, _, _, _]) (n := 0) (As := []) hC [29] [0, 1, 2, 3, 4, 5, 6, 7, 8, 9, 10, 11, 12, 13, 14, 15, 16, 17, 18, 19, 20, 21, 22, 23, 24, 25, 26, 27, 28] rfl rfl (by decide) (by decide) (by decide) (ci_X10_init X hst _) ⟨by decide, by decide, by decide +kernel⟩ rfl en_l10 en_m10 en_n10 en_k10 rfl rfl (Nat.le_of_ble_eq_true rfl) ⟨by decide, by decide⟩ ⟨Nat.le_of_ble_eq_true rfl, Nat.le_of_ble_eq_true rfl⟩ dL_law_12 (fun w8 h8 => ?_)
  obtain ⟨m1, m2, m3, m4, m5, m6, m7, m8, m9, m10, m11, m12, m13, m14, m15, m16, m17, m18, m19, m20, m21, m22, m23, m24, m25, m26, m27, m28, m29, m30, rfl⟩ := h8
  refine w_astore_n [(2, .ref y0), (1, .ref x0), (0, .ref b)] rfl (by decide) hC dL_law_15 ?_
  refine w_iconst 1 (by decide) hC dL_law_16 ?_
  refine w_newa (atype := .long) (a0 := (1, .inr (.inl (fun _ => (0 : Int32).toInt64)))) 6 hC rfl (by decide) rfl en_long (fun _ => rfl) (by decide) (by decide) (by decide) (Nat.le_of_ble_eq_true rfl) (Nat.le_of_ble_eq_true rfl) dL_law_17 (fun z0 => ?_)
  refine w_astore_n [(3, .ref z0), (2, .ref y0), (1, .ref x0), (0, .ref b)] rfl (by decide) hC dL_law_19 ?_
  refine w_iconst (Int32.ofNat (6 * 0)) (by decide) hC dL_law_20 ?_
  refine w_istore [(4, .int (Int32.ofNat (6 * 0))), (3, .ref z0), (2, .ref y0), (1, .ref x0), (0, .ref b)] rfl (by decide) hC dL_law_21 ?_
  refine w_sub [4, 3, 2, 1, 0] rfl ?_
  intro p e s m args below meth c B H locs ls hP hD hS hl
  obtain ⟨rfl, B⟩ := B
  exact h (adS x0 a1 a3 a5 a6 a7 a8 a9 a10 a11 a12 a13 a14 a15 a17 a18 a19 a20 a21 a22 a23 a25 a26 a28 a29 a31 a32 a34 a35 y0 m1 m2 m3 m4 m5 m6 m7 m8 m9 m10 m11 m12 m13 m14 m15 m16 m17 m18 m19 m20 m21 m22 m23 m24 m25 m26 m27 m28 m29 m30 z0) p e s m below meth c B H locs ls (HW.start hP hD) hS hl
