theorem w_557 : Cond.codeWith yL_shop cL_shop 5 (some .int) [(0, 32, 33, 35), (0, 32, 39, 37)] ∈ G_ := gt4 2 (by decide +kernel) (by decide +kernel)
theorem w_558 : Cond.methodLink RL 32 yX9_mend ∈ G_ := gt4 45 (by decide +kernel) (by decide +kernel)
theorem w_559 : Cond.instanceMethod yX9_mend ∈ G_ := gt4 46 (by decide +kernel) (by decide +kernel)
theorem w_560 : Cond.selects RX9 yX9_mend yX9_mend ∈ G_ := gt4 47 (by decide +kernel) (by decide +kernel)
theorem w_561 : Cond.code yX9_mend cX9_mend 5 (some (.int)) ∈ G_ := gt4 48 (by decide +kernel) (by decide +kernel)
theorem w_562 : Cond.classLink RL 35 "java/lang/IndexOutOfBoundsException" ∈ G_ := gt4 3 (by decide +kernel) (by decide +kernel)
theorem w_563 : Cond.castable "java/lang/IndexOutOfBoundsException" "java/lang/IndexOutOfBoundsException" ∈ NW_ := nt1 209 (by decide +kernel) (by decide +kernel)
theorem w_564 : Cond.classLink RL 37 "java/lang/IllegalStateException" ∈ G_ := gt4 4 (by decide +kernel) (by decide +kernel)
theorem w_565 : Cond.castable "java/lang/IllegalStateException" "java/lang/IllegalStateException" ∈ NW_ := nt2 61 (by decide +kernel) (by decide +kernel)
theorem w_566 : Cond.methodLink RL 28 yX9_lathe ∈ G_ := gt4 14 (by decide +kernel) (by decide +kernel)
theorem w_567 : Cond.instanceMethod yX9_lathe ∈ G_ := gt4 15 (by decide +kernel) (by decide +kernel)
theorem w_568 : Cond.selects RX9 yX9_lathe yX9_lathe ∈ G_ := gt4 16 (by decide +kernel) (by decide +kernel)
theorem w_569 : Cond.code yX9_lathe cX9_lathe 3 (some (.int)) ∈ G_ := gt4 17 (by decide +kernel) (by decide +kernel)
theorem w_570 : Cond.methodLink RL 22 yX9_examine ∈ G_ := gt4 5 (by decide +kernel) (by decide +kernel)
theorem w_571 : Cond.instanceMethod yX9_examine ∈ G_ := gt4 6 (by decide +kernel) (by decide +kernel)
theorem w_572 : Cond.selects RX9 yX9_examine yX9_examine ∈ G_ := gt4 7 (by decide +kernel) (by decide +kernel)
theorem w_573 : Cond.code yX9_examine cX9_examine 4 (some (.int)) ∈ G_ := gt4 8 (by decide +kernel) (by decide +kernel)
theorem w_574 : Cond.codeWith yL_told cL_told 6 (some .int) [(0, 9, 10, 37)] ∈ G_ := gt4 54 (by decide +kernel) (by decide +kernel)
theorem w_575 : Cond.methodLink RL 39 yX9_fault ∈ G_ := gt4 55 (by decide +kernel) (by decide +kernel)
theorem w_576 : Cond.instanceMethod yX9_fault ∈ G_ := gt4 56 (by decide +kernel) (by decide +kernel)
theorem w_577 : Cond.selects RX9 yX9_fault yX9_fault ∈ G_ := gt4 57 (by decide +kernel) (by decide +kernel)
theorem w_578 : Cond.code yX9_fault cX9_fault 8 (some (.int)) ∈ G_ := gt4 58 (by decide +kernel) (by decide +kernel)
def g_shop (σ : Wd) (p0 : Int32) (p1 : Int32) (p2 : Int32) : Option (Int32 × Wd) := if p0 = 0 then wrapF (some (-1001)) (some (-1003)) (f_X9_examine σ p1 p2) else if p0 = 1 then wrapF (some (-1001)) (some (-1003)) (f_X9_lathe σ p1) else wrapF (some (-1001)) (some (-1003)) (f_X9_mend σ p1 p2)
theorem wn_shop (X : Xt) (hst : X.1.stackTraces = false) (ad : Ad) (σ : Wd) (p0 : Int32) (p1 : Int32) (p2 : Int32) (r : Int32) (σ' : Wd) (hg : g_shop σ p0 p1 p2 = some (r, σ')) : WN X yL_shop cL_shop 5 [(0, 32, 33, 35), (0, 32, 39, 37)] 10 172 (1, 6) ad σ [.ref (ad 0 0), .int p0, .int p1, .int p2] r σ' := by
  unfold g_shop at hg
  refine WN.intro rfl hst (Nat.le_of_ble_eq_true rfl) (lv := [(0, .ref _), (1, .int _), (2, .int _), (3, .int _)]) rfl ?_
  refine h_iload_n 1 rfl dL_shop_0 ?_
  refine h_if_ne 13 dL_shop_1 (by decide) (fun hc => ?_) (fun hc => ?_)
  · rw [if_neg hc] at hg
    refine h_iload_n 1 rfl dL_shop_13 ?_
    refine h_iconst 1 (by decide) dL_shop_14 ?_
    refine h_icmp_ne 26 dL_shop_15 (by decide) (fun hc => ?_) (fun hc => ?_)
    · rw [if_neg hc] at hg
      refine h_aload_n 0 rfl dL_shop_26 ?_
      refine h_iload_n 2 rfl dL_shop_27 ?_
      refine h_iload_n 3 rfl dL_shop_28 ?_
      obtain ⟨res1, σ1, hg1, hok, hex⟩ := wrapF_cases hg
      refine h_callV (n := 2) (As := [.int _, .int _]) (kc' := (0, 0)) hg1 (nc_X9_mend X hst ad _ _ _) (fun _ h => h ▸ Fx.rf ad) ⟨rfl, by decide, by decide, by decide +kernel⟩ w_558 w_559 w_560 w_203 w_561 rfl rfl ⟨by decide, by decide⟩ ⟨by decide, by decide, by decide, by decide⟩ dL_shop_29 (fun v hv ad' hfx => ?_) (fun E hE => ?_)
      · obtain ⟨rfl, rfl⟩ := hok v hv
        exact h_ret hfx dL_shop_32
      · obtain ⟨rfl, hE2⟩ := hex E hE
        rcases hE2 with ⟨rfl, h9⟩ | ⟨rfl, h9⟩
        · cases h9
          exact ⟨33, ⟨0, 0, 32, 35, "java/lang/IndexOutOfBoundsException", rfl, by decide, by decide, by decide, w_562, w_563, fun i hi => absurd hi (Nat.not_lt_zero _)⟩, fun ad' q hfx => h_caught (pc := 33) (-1001) (by decide) hfx (by decide) dL_shop_33 dL_shop_35 dL_shop_38⟩
        · cases h9
          exact ⟨39, ⟨1, 0, 32, 37, "java/lang/IllegalStateException", rfl, by decide, by decide, by decide, w_564, w_565, fun i hi => match i, hi with | 0, _ => ⟨0, 32, 33, 35, "java/lang/IndexOutOfBoundsException", rfl, by decide, w_562, by decide⟩⟩, fun ad' q hfx => h_caught (pc := 39) (-1003) (by decide) hfx (by decide) dL_shop_39 dL_shop_41 dL_shop_44⟩
    · rw [if_pos hc] at hg
      refine h_aload_n 0 rfl dL_shop_18 ?_
      refine h_iload_n 2 rfl dL_shop_19 ?_
      obtain ⟨res1, σ1, hg1, hok, hex⟩ := wrapF_cases hg
      refine h_callV (n := 1) (As := [.int _]) (kc' := (0, 0)) hg1 (nc_X9_lathe X hst ad _ _) (fun _ h => h ▸ Fx.rf ad) ⟨rfl, by decide, by decide, by decide +kernel⟩ w_566 w_567 w_568 w_203 w_569 rfl rfl ⟨by decide, by decide⟩ ⟨by decide, by decide, by decide, by decide⟩ dL_shop_20 (fun v hv ad' hfx => ?_) (fun E hE => ?_)
      · obtain ⟨rfl, rfl⟩ := hok v hv
        refine h_goto 32 dL_shop_23 (by decide) ?_
        exact h_ret hfx dL_shop_32
      · obtain ⟨rfl, hE2⟩ := hex E hE
        rcases hE2 with ⟨rfl, h9⟩ | ⟨rfl, h9⟩
        · cases h9
          exact ⟨33, ⟨0, 0, 32, 35, "java/lang/IndexOutOfBoundsException", rfl, by decide, by decide, by decide, w_562, w_563, fun i hi => absurd hi (Nat.not_lt_zero _)⟩, fun ad' q hfx => h_caught (pc := 33) (-1001) (by decide) hfx (by decide) dL_shop_33 dL_shop_35 dL_shop_38⟩
        · cases h9
          exact ⟨39, ⟨1, 0, 32, 37, "java/lang/IllegalStateException", rfl, by decide, by decide, by decide, w_564, w_565, fun i hi => match i, hi with | 0, _ => ⟨0, 32, 33, 35, "java/lang/IndexOutOfBoundsException", rfl, by decide, w_562, by decide⟩⟩, fun ad' q hfx => h_caught (pc := 39) (-1003) (by decide) hfx (by decide) dL_shop_39 dL_shop_41 dL_shop_44⟩
  · rw [if_pos hc] at hg
    refine h_aload_n 0 rfl dL_shop_4 ?_
    refine h_iload_n 2 rfl dL_shop_5 ?_
    refine h_iload_n 3 rfl dL_shop_6 ?_
    obtain ⟨res1, σ1, hg1, hok, hex⟩ := wrapF_cases hg
    refine h_callV (n := 2) (As := [.int _, .int _]) (kc' := (0, 0)) hg1 (nc_X9_examine X hst ad _ _ _) (fun _ h => h ▸ Fx.rf ad) ⟨rfl, by decide, by decide, by decide +kernel⟩ w_570 w_571 w_572 w_203 w_573 rfl rfl ⟨by decide, by decide⟩ ⟨by decide, by decide, by decide, by decide⟩ dL_shop_7 (fun v hv ad' hfx => ?_) (fun E hE => ?_)
    · obtain ⟨rfl, rfl⟩ := hok v hv
      refine h_goto 32 dL_shop_10 (by decide) ?_
      exact h_ret hfx dL_shop_32
    · obtain ⟨rfl, hE2⟩ := hex E hE
      rcases hE2 with ⟨rfl, h9⟩ | ⟨rfl, h9⟩
      · cases h9
        exact ⟨33, ⟨0, 0, 32, 35, "java/lang/IndexOutOfBoundsException", rfl, by decide, by decide, by decide, w_562, w_563, fun i hi => absurd hi (Nat.not_lt_zero _)⟩, fun ad' q hfx => h_caught (pc := 33) (-1001) (by decide) hfx (by decide) dL_shop_33 dL_shop_35 dL_shop_38⟩
      · cases h9
        exact ⟨39, ⟨1, 0, 32, 37, "java/lang/IllegalStateException", rfl, by decide, by decide, by decide, w_564, w_565, fun i hi => match i, hi with | 0, _ => ⟨0, 32, 33, 35, "java/lang/IndexOutOfBoundsException", rfl, by decide, w_562, by decide⟩⟩, fun ad' q hfx => h_caught (pc := 39) (-1003) (by decide) hfx (by decide) dL_shop_39 dL_shop_41 dL_shop_44⟩
def g_told (σ : Wd) (p0 : Int32) (p1 : Int32) (p2 : Int32) (p3 : Int32) : Option (Int32 × Wd) := wrapF none (some (-1003)) (f_X9_fault σ p0 p1 p2 p3)
theorem wn_told (X : Xt) (hst : X.1.stackTraces = false) (ad : Ad) (σ : Wd) (p0 : Int32) (p1 : Int32) (p2 : Int32) (p3 : Int32) (r : Int32) (σ' : Wd) (hg : g_told σ p0 p1 p2 p3 = some (r, σ')) : WN X yL_told cL_told 6 [(0, 9, 10, 37)] 8 131 (2, 14) ad σ [.ref (ad 0 0), .int p0, .int p1, .int p2, .int p3] r σ' := by
  unfold g_told at hg
  refine WN.intro rfl hst (Nat.le_of_ble_eq_true rfl) (lv := [(0, .ref _), (1, .int _), (2, .int _), (3, .int _), (4, .int _)]) rfl ?_
  refine h_aload_n 0 rfl dL_told_0 ?_
  refine h_iload_n 1 rfl dL_told_1 ?_
  refine h_iload_n 2 rfl dL_told_2 ?_
  refine h_iload_n 3 rfl dL_told_3 ?_
  refine h_iload 4 rfl dL_told_4 ?_
  obtain ⟨res1, σ1, hg1, hok, hex⟩ := wrapF_cases hg
  refine h_callV (n := 4) (As := [.int _, .int _, .int _, .int _]) (kc' := (2, 14)) hg1 (nc_X9_fault X hst ad _ _ _ _ _) (fun _ h => h) ⟨rfl, by decide, by decide, by decide +kernel⟩ w_575 w_576 w_577 w_203 w_578 rfl rfl ⟨by decide, by decide⟩ ⟨by decide, by decide, by decide, by decide⟩ dL_told_6 (fun v hv ad' hfx => ?_) (fun E hE => ?_)
  · obtain ⟨rfl, rfl⟩ := hok v hv
    exact h_ret hfx dL_told_9
  · obtain ⟨rfl, hE2⟩ := hex E hE
    rcases hE2 with ⟨rfl, h9⟩ | ⟨rfl, h9⟩
    · cases h9
    · cases h9
      exact ⟨10, ⟨0, 0, 9, 37, "java/lang/IllegalStateException", rfl, by decide, by decide, by decide, w_564, w_565, fun i hi => absurd hi (Nat.not_lt_zero _)⟩, fun ad' q hfx => h_caught (pc := 10) (-1003) (by decide) hfx (by decide) dL_told_10 dL_told_12 dL_told_15⟩
