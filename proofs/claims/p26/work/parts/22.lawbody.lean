theorem w_579 : Cond.methodLink RL 84 yL_cell ∈ G_ := gt3 218 (by decide +kernel) (by decide +kernel)
theorem w_580 : Cond.static yL_cell ∈ G_ := gt3 219 (by decide +kernel) (by decide +kernel)
theorem w_581 : Cond.code yL_cell cL_cell 2 (some (.int)) ∈ G_ := gt3 220 (by decide +kernel) (by decide +kernel)
theorem w_582 : Cond.methodLink RL 88 yL_up ∈ G_ := gt3 215 (by decide +kernel) (by decide +kernel)
theorem w_583 : Cond.static yL_up ∈ G_ := gt3 216 (by decide +kernel) (by decide +kernel)
theorem w_584 : Cond.code yL_up cL_up 2 (some (.int)) ∈ G_ := gt3 217 (by decide +kernel) (by decide +kernel)
theorem w_585 : Cond.methodLink RL 102 yX9_list ∈ G_ := gt2 234 (by decide +kernel) (by decide +kernel)
theorem w_586 : Cond.instanceMethod yX9_list ∈ G_ := gt2 235 (by decide +kernel) (by decide +kernel)
theorem w_587 : Cond.selects RX9 yX9_list yX9_list ∈ G_ := gt2 236 (by decide +kernel) (by decide +kernel)
theorem w_588 : Cond.code yX9_list cX9_list 6 (some (.int)) ∈ G_ := gt2 237 (by decide +kernel) (by decide +kernel)
theorem w_589 : Cond.methodLink RL 133 yL_alike ∈ G_ := gt4 88 (by decide +kernel) (by decide +kernel)
theorem w_590 : Cond.static yL_alike ∈ G_ := gt4 89 (by decide +kernel) (by decide +kernel)
theorem w_591 : Cond.code yL_alike cL_alike 15 (some (.boolean)) ∈ G_ := gt4 90 (by decide +kernel) (by decide +kernel)
theorem w_592 : Cond.methodLink RL 105 yX9_exam ∈ G_ := gt2 218 (by decide +kernel) (by decide +kernel)
theorem w_593 : Cond.instanceMethod yX9_exam ∈ G_ := gt2 219 (by decide +kernel) (by decide +kernel)
theorem w_594 : Cond.selects RX9 yX9_exam yX9_exam ∈ G_ := gt2 220 (by decide +kernel) (by decide +kernel)
theorem w_595 : Cond.code yX9_exam cX9_exam 6 (some (.int)) ∈ G_ := gt2 221 (by decide +kernel) (by decide +kernel)
theorem w_596 : Cond.methodLink RL 108 yX9_pin ∈ G_ := gt3 3 (by decide +kernel) (by decide +kernel)
theorem w_597 : Cond.instanceMethod yX9_pin ∈ G_ := gt3 4 (by decide +kernel) (by decide +kernel)
theorem w_598 : Cond.selects RX9 yX9_pin yX9_pin ∈ G_ := gt3 5 (by decide +kernel) (by decide +kernel)
theorem w_599 : Cond.code yX9_pin cX9_pin 5 (some (.int)) ∈ G_ := gt3 6 (by decide +kernel) (by decide +kernel)
theorem w_600 : Cond.constant RL 115 (100000) ∈ G_ := gt4 185 (by decide +kernel) (by decide +kernel)
theorem w_601 : Cond.methodLink RL 111 yL_shop ∈ G_ := gt4 0 (by decide +kernel) (by decide +kernel)
theorem w_602 : Cond.static yL_shop ∈ G_ := gt4 1 (by decide +kernel) (by decide +kernel)
theorem w_603 : Cond.methodLink RL 116 yL_remove ∈ G_ := gt3 237 (by decide +kernel) (by decide +kernel)
theorem w_604 : Cond.static yL_remove ∈ G_ := gt3 238 (by decide +kernel) (by decide +kernel)
theorem w_605 : Cond.code yL_remove cL_remove 6 none ∈ G_ := gt3 239 (by decide +kernel) (by decide +kernel)
theorem w_606 : Cond.methodLink RL 120 yL_runs ∈ G_ := gt3 231 (by decide +kernel) (by decide +kernel)
theorem w_607 : Cond.static yL_runs ∈ G_ := gt3 232 (by decide +kernel) (by decide +kernel)
theorem w_608 : Cond.code yL_runs cL_runs 10 (some (.int)) ∈ G_ := gt3 233 (by decide +kernel) (by decide +kernel)
theorem w_609 : Cond.methodLink RL 124 yX9_day ∈ G_ := gt3 26 (by decide +kernel) (by decide +kernel)
theorem w_610 : Cond.instanceMethod yX9_day ∈ G_ := gt3 27 (by decide +kernel) (by decide +kernel)
theorem w_611 : Cond.selects RX9 yX9_day yX9_day ∈ G_ := gt3 28 (by decide +kernel) (by decide +kernel)
theorem w_612 : Cond.code yX9_day cX9_day 2 (some (.int)) ∈ G_ := gt3 29 (by decide +kernel) (by decide +kernel)
theorem w_613 : Cond.methodLink RL 127 yX9_shunts ∈ G_ := gt3 203 (by decide +kernel) (by decide +kernel)
theorem w_614 : Cond.instanceMethod yX9_shunts ∈ G_ := gt3 204 (by decide +kernel) (by decide +kernel)
theorem w_615 : Cond.selects RX9 yX9_shunts yX9_shunts ∈ G_ := gt3 205 (by decide +kernel) (by decide +kernel)
theorem w_616 : Cond.code yX9_shunts cX9_shunts 1 (some (.int)) ∈ G_ := gt3 206 (by decide +kernel) (by decide +kernel)
theorem w_617 : Cond.methodLink RL 130 yX9_ran ∈ G_ := gt3 207 (by decide +kernel) (by decide +kernel)
theorem w_618 : Cond.instanceMethod yX9_ran ∈ G_ := gt3 208 (by decide +kernel) (by decide +kernel)
theorem w_619 : Cond.selects RX9 yX9_ran yX9_ran ∈ G_ := gt3 209 (by decide +kernel) (by decide +kernel)
theorem w_620 : Cond.code yX9_ran cX9_ran 3 (some (.int)) ∈ G_ := gt3 210 (by decide +kernel) (by decide +kernel)
theorem w_621 : Cond.methodLink RL 98 yL_told ∈ G_ := gt4 52 (by decide +kernel) (by decide +kernel)
theorem w_622 : Cond.static yL_told ∈ G_ := gt4 53 (by decide +kernel) (by decide +kernel)
theorem w_623 : Cond.methodLink RL 94 yX9_diagram ∈ G_ := gt2 177 (by decide +kernel) (by decide +kernel)
theorem w_624 : Cond.instanceMethod yX9_diagram ∈ G_ := gt2 178 (by decide +kernel) (by decide +kernel)
theorem w_625 : Cond.selects RX9 yX9_diagram yX9_diagram ∈ G_ := gt2 179 (by decide +kernel) (by decide +kernel)
theorem w_626 : Cond.code yX9_diagram cX9_diagram 7 (some (.int)) ∈ G_ := gt2 180 (by decide +kernel) (by decide +kernel)
theorem w_627 : Cond.methodLink RL 91 yX9_unit ∈ G_ := gt1 199 (by decide +kernel) (by decide +kernel)
theorem w_628 : Cond.instanceMethod yX9_unit ∈ G_ := gt1 200 (by decide +kernel) (by decide +kernel)
theorem w_629 : Cond.selects RX9 yX9_unit yX9_unit ∈ G_ := gt1 201 (by decide +kernel) (by decide +kernel)
theorem w_630 : Cond.code yX9_unit cX9_unit 5 (some (.int)) ∈ G_ := gt1 202 (by decide +kernel) (by decide +kernel)
def j_L_law_1937 (L : Nat) (xs : Nat → Int32) (k600 : Wd → Int32 → Int32 → Int32 → Int32 → Int32 → Int32 → Option Unit) (σ : Wd) (a13 : Int32) (a14 : Int32) (a12 : Int32) (a11 : Int32) (a10 : Int32) (a9 : Int32) : Option Unit :=
  if a13 = 0 then
    k600 σ (a14 + 1) (0 : Int32) a12 a11 a10 a9
  else
    bu (f_L_alike σ a9) fun v16 σ17 =>
    if v16 = 0 then
      k600 σ17 (a14 + 1) (0 : Int32) a12 a11 a10 a9
    else
      k600 σ17 (a14 + 1) (1 : Int32) a12 a11 a10 a9
def j_L_law_1001 (L : Nat) (xs : Nat → Int32) (k600 : Wd → Int32 → Int32 → Int32 → Int32 → Int32 → Int32 → Option Unit) (σ : Wd) (a21 : Int32) (a20 : Int32) (a18 : Int32) (a14 : Int32) (a12 : Int32) (a11 : Int32) (a10 : Int32) (a9 : Int32) (s0 : Int32) : Option Unit :=
  gd (inb ((9 : Int32) + a18) 17) <|
  bd (wr σ 76 0 ((9 : Int32) + a18).toNatClampNeg a20) fun σ14 =>
  gd (inb ((13 : Int32) + a18) 17) <|
  bd (wr σ14 76 0 ((13 : Int32) + a18).toNatClampNeg a21) fun σ15 =>
  j_L_law_1937 L xs k600 σ15 s0 a14 a12 a11 a10 a9
def j_L_law_973 (L : Nat) (xs : Nat → Int32) (k600 : Wd → Int32 → Int32 → Int32 → Int32 → Int32 → Int32 → Option Unit) (σ : Wd) (a20 : Int32) (a18 : Int32) (a14 : Int32) (a12 : Int32) (a11 : Int32) (a10 : Int32) (a9 : Int32) (s0 : Int32) : Option Unit :=
  bu (f_X9_list σ a18 a20 s0) fun v12 σ13 =>
  gd (inb ((9 : Int32) + a18) 17) <|
  if v12 = (σ13.1 76 0 ((9 : Int32) + a18).toNatClampNeg) then
    j_L_law_1001 L xs k600 σ13 s0 a20 a18 a14 a12 a11 a10 a9 (1 : Int32)
  else
    j_L_law_1001 L xs k600 σ13 s0 a20 a18 a14 a12 a11 a10 a9 (0 : Int32)
def j_L_law_939 (L : Nat) (xs : Nat → Int32) (k600 : Wd → Int32 → Int32 → Int32 → Int32 → Int32 → Int32 → Option Unit) (σ : Wd) (a18 : Int32) (a15 : Int32) (a14 : Int32) (a12 : Int32) (a11 : Int32) (a10 : Int32) (a9 : Int32) (s0 : Int32) : Option Unit :=
  if 0 ≤ s0 then
    bu (f_L_up σ (a15 / (512 : Int32)) (3 : Int32)) fun v10 σ11 =>
    j_L_law_973 L xs k600 σ11 s0 a18 a14 a12 a11 a10 a9 v10
  else
    bu (f_L_up σ (a15 / (512 : Int32)) (99 : Int32)) fun v18 σ19 =>
    j_L_law_973 L xs k600 σ19 s0 a18 a14 a12 a11 a10 a9 (v18 - (50 : Int32))
def j_L_law_1178 (L : Nat) (xs : Nat → Int32) (k600 : Wd → Int32 → Int32 → Int32 → Int32 → Int32 → Int32 → Option Unit) (σ : Wd) (a14 : Int32) (a12 : Int32) (a11 : Int32) (a10 : Int32) (a9 : Int32) (s0 : Int32) : Option Unit :=
  j_L_law_1937 L xs k600 σ s0 a14 a12 a11 a10 a9
def j_L_law_1118 (L : Nat) (xs : Nat → Int32) (k600 : Wd → Int32 → Int32 → Int32 → Int32 → Int32 → Int32 → Option Unit) (σ : Wd) (a20 : Int32) (a14 : Int32) (a12 : Int32) (a11 : Int32) (a10 : Int32) (a9 : Int32) (s0 : Int32) (s1 : Int32) (s2 : Int32) : Option Unit :=
  bu (f_L_up σ s1 s0) fun v30 σ31 =>
  gd (inb s2 17) <|
  bd (wr σ31 76 0 s2.toNatClampNeg v30) fun σ32 =>
  gd (inb a20 17) <|
  gd (inb ((3 : Int32) + a20) 17) <|
  gd (inb ((6 : Int32) + a20) 17) <|
  bu (f_X9_exam σ32 a20 (σ32.1 76 0 a20.toNatClampNeg) (σ32.1 76 0 ((3 : Int32) + a20).toNatClampNeg) (σ32.1 76 0 ((6 : Int32) + a20).toNatClampNeg)) fun v33 σ34 =>
  if v33 = ((σ34.1 76 0 a20.toNatClampNeg) + (((σ34.1 76 0 a20.toNatClampNeg) * (σ34.1 76 0 ((3 : Int32) + a20).toNatClampNeg)) / (100 : Int32))) then
    j_L_law_1178 L xs k600 σ34 a14 a12 a11 a10 a9 (1 : Int32)
  else
    j_L_law_1178 L xs k600 σ34 a14 a12 a11 a10 a9 (0 : Int32)
def j_L_law_1070 (L : Nat) (xs : Nat → Int32) (k600 : Wd → Int32 → Int32 → Int32 → Int32 → Int32 → Int32 → Option Unit) (σ : Wd) (a20 : Int32) (a15 : Int32) (a14 : Int32) (a12 : Int32) (a11 : Int32) (a10 : Int32) (a9 : Int32) (s0 : Int32) (s1 : Int32) (s2 : Int32) (s3 : Int32) : Option Unit :=
  bu (f_L_up σ s1 s0) fun v24 σ25 =>
  gd (inb s3 17) <|
  bd (wr σ25 76 0 s3.toNatClampNeg (s2 + v24)) fun σ26 =>
  bu (f_L_up σ26 (a15 / (1024 : Int32)) (21 : Int32)) fun v27 σ28 =>
  gd (inb ((3 : Int32) + a20) 17) <|
  bd (wr σ28 76 0 ((3 : Int32) + a20).toNatClampNeg v27) fun σ29 =>
  if a20 = 0 then
    j_L_law_1118 L xs k600 σ29 a20 a14 a12 a11 a10 a9 (9 : Int32) (a15 / (2048 : Int32)) ((6 : Int32) + a20)
  else
    j_L_law_1118 L xs k600 σ29 a20 a14 a12 a11 a10 a9 (60 : Int32) (a15 / (2048 : Int32)) ((6 : Int32) + a20)
def j_L_law_1248 (L : Nat) (xs : Nat → Int32) (k600 : Wd → Int32 → Int32 → Int32 → Int32 → Int32 → Int32 → Option Unit) (σ : Wd) (a21 : Int32) (a20 : Int32) (a14 : Int32) (a12 : Int32) (a11 : Int32) (a10 : Int32) (a9 : Int32) (s0 : Int32) : Option Unit :=
  gd (inb (((6 : Int32) * a20) + (5 : Int32)) 18) <|
  bd (wr σ 75 0 (((6 : Int32) * a20) + (5 : Int32)).toNatClampNeg a21) fun σ41 =>
  j_L_law_1937 L xs k600 σ41 s0 a14 a12 a11 a10 a9
def j_L_law_1220 (L : Nat) (xs : Nat → Int32) (k600 : Wd → Int32 → Int32 → Int32 → Int32 → Int32 → Int32 → Option Unit) (σ : Wd) (a20 : Int32) (a14 : Int32) (a12 : Int32) (a11 : Int32) (a10 : Int32) (a9 : Int32) (s0 : Int32) : Option Unit :=
  bu (f_X9_pin σ a20 s0) fun v39 σ40 =>
  gd (inb (((6 : Int32) * a20) + (5 : Int32)) 18) <|
  if v39 = (σ40.1 75 0 (((6 : Int32) * a20) + (5 : Int32)).toNatClampNeg) then
    j_L_law_1248 L xs k600 σ40 s0 a20 a14 a12 a11 a10 a9 (1 : Int32)
  else
    j_L_law_1248 L xs k600 σ40 s0 a20 a14 a12 a11 a10 a9 (0 : Int32)
def j_L_law_1671 (L : Nat) (xs : Nat → Int32) (k600 : Wd → Int32 → Int32 → Int32 → Int32 → Int32 → Int32 → Option Unit) (σ : Wd) (a12 : Int32) (a13 : Int32) (a14 : Int32) (a11 : Int32) (a10 : Int32) (a9 : Int32) : Option Unit :=
  j_L_law_1937 L xs k600 σ a13 a14 a12 a11 a10 a9
def l_L_law_1631 (L : Nat) (xs : Nat → Int32) (k600 : Wd → Int32 → Int32 → Int32 → Int32 → Int32 → Int32 → Option Unit) : Nat → Wd → Int32 → Int32 → Int32 → Int32 → Int32 → Int32 → Int32 → Int32 → Int32 → Option Unit
  | 0, _, _, _, _, _, _, _, _, _, _ => none
  | n + 1, σ, a22, a12, a13, a20, a17, a14, a11, a10, a9 =>
  if a22 < 0 then
    j_L_law_1671 L xs k600 σ a12 a13 a14 a11 a10 a9
  else
    if a20 = 0 then
      j_L_law_1671 L xs k600 σ a12 a13 a14 a11 a10 a9
    else
      gd (inb (((8 : Int32) * a17) + a22) 64) <|
      if (σ.1 72 0 (((8 : Int32) * a17) + a22).toNatClampNeg) = 0 then
        bu (f_L_remove σ a17 a22) fun v45 σ46 =>
        (l_L_law_1631 L xs k600 n) σ46 (a22 + (-1)) a12 a13 a20 a17 a14 a11 a10 a9
      else
        (l_L_law_1631 L xs k600 n) σ (a22 + (-1)) a12 a13 a20 a17 a14 a11 a10 a9
def j_L_law_1620 (L : Nat) (xs : Nat → Int32) (k600 : Wd → Int32 → Int32 → Int32 → Int32 → Int32 → Int32 → Option Unit) (σ : Wd) (a12 : Int32) (a13 : Int32) (a20 : Int32) (a19 : Int32) (a17 : Int32) (a14 : Int32) (a11 : Int32) (a10 : Int32) (a9 : Int32) : Option Unit :=
  gd (inb (a19 + (12 : Int32)) 64) <|
  bd (((σ.1 71 0 (a19 + (12 : Int32)).toNatClampNeg) - (1 : Int32))) fun x44 =>
  l_L_law_1631 L xs k600 FU σ x44 a12 a13 a20 a17 a14 a11 a10 a9
def l_L_law_1593 (L : Nat) (xs : Nat → Int32) (k600 : Wd → Int32 → Int32 → Int32 → Int32 → Int32 → Int32 → Option Unit) : Nat → Wd → Int32 → Int32 → Int32 → Int32 → Int32 → Int32 → Int32 → Int32 → Int32 → Int32 → Int32 → Option Unit
  | 0, _, _, _, _, _, _, _, _, _, _, _, _ => none
  | n + 1, σ, a22, a12, a13, a21, a20, a19, a17, a14, a11, a10, a9 =>
  if (6 : Int32) ≤ a22 then
    j_L_law_1620 L xs k600 σ a12 a13 a20 a19 a17 a14 a11 a10 a9
  else
    if a20 = 0 then
      j_L_law_1620 L xs k600 σ a12 a13 a20 a19 a17 a14 a11 a10 a9
    else
      gd (inb (a19 + a22) 64) <|
      bd (wr σ 71 0 (a19 + a22).toNatClampNeg a21) fun σ47 =>
      (l_L_law_1593 L xs k600 n) σ47 (a22 + 1) a12 a13 a21 a20 a19 a17 a14 a11 a10 a9
def j_L_law_1588 (L : Nat) (xs : Nat → Int32) (k600 : Wd → Int32 → Int32 → Int32 → Int32 → Int32 → Int32 → Option Unit) (σ : Wd) (a13 : Int32) (a21 : Int32) (a20 : Int32) (a19 : Int32) (a17 : Int32) (a14 : Int32) (a11 : Int32) (a10 : Int32) (a9 : Int32) (s0 : Int32) : Option Unit :=
  l_L_law_1593 L xs k600 FU σ (2 : Int32) s0 a13 a21 a20 a19 a17 a14 a11 a10 a9
def j_L_law_1583 (L : Nat) (xs : Nat → Int32) (k600 : Wd → Int32 → Int32 → Int32 → Int32 → Int32 → Int32 → Option Unit) (σ : Wd) (a13 : Int32) (a21 : Int32) (a20 : Int32) (a19 : Int32) (a17 : Int32) (a14 : Int32) (a11 : Int32) (a10 : Int32) (a9 : Int32) : Option Unit :=
  j_L_law_1588 L xs k600 σ a13 a21 a20 a19 a17 a14 a11 a10 a9 (1 : Int32)
def j_L_law_1571 (L : Nat) (xs : Nat → Int32) (k600 : Wd → Int32 → Int32 → Int32 → Int32 → Int32 → Int32 → Option Unit) (σ : Wd) (a21 : Int32) (a20 : Int32) (a19 : Int32) (a17 : Int32) (a14 : Int32) (a12 : Int32) (a11 : Int32) (a10 : Int32) (a9 : Int32) (s0 : Int32) : Option Unit :=
  if a12 = 0 then
    if a20 = 0 then
      j_L_law_1588 L xs k600 σ s0 a21 a20 a19 a17 a14 a11 a10 a9 (0 : Int32)
    else
      j_L_law_1583 L xs k600 σ s0 a21 a20 a19 a17 a14 a11 a10 a9
  else
    j_L_law_1583 L xs k600 σ s0 a21 a20 a19 a17 a14 a11 a10 a9
def j_L_law_1563 (L : Nat) (xs : Nat → Int32) (k600 : Wd → Int32 → Int32 → Int32 → Int32 → Int32 → Int32 → Option Unit) (σ : Wd) (a21 : Int32) (a20 : Int32) (a19 : Int32) (a17 : Int32) (a14 : Int32) (a12 : Int32) (a11 : Int32) (a10 : Int32) (a9 : Int32) (s0 : Int32) (s1 : Int32) : Option Unit :=
  if s1 = s0 then
    j_L_law_1571 L xs k600 σ a21 a20 a19 a17 a14 a12 a11 a10 a9 (1 : Int32)
  else
    j_L_law_1571 L xs k600 σ a21 a20 a19 a17 a14 a12 a11 a10 a9 (0 : Int32)
def j_L_law_1542 (L : Nat) (xs : Nat → Int32) (k600 : Wd → Int32 → Int32 → Int32 → Int32 → Int32 → Int32 → Option Unit) (σ : Wd) (a21 : Int32) (a20 : Int32) (a19 : Int32) (a17 : Int32) (a14 : Int32) (a12 : Int32) (a11 : Int32) (a10 : Int32) (a9 : Int32) : Option Unit :=
  bv (g_shop σ (1 : Int32) a17 (0 : Int32)) fun v42 σ43 =>
  if a20 = 0 then
    j_L_law_1563 L xs k600 σ43 a21 a20 a19 a17 a14 a12 a11 a10 a9 (-1003 : Int32) v42
  else
    j_L_law_1563 L xs k600 σ43 a21 a20 a19 a17 a14 a12 a11 a10 a9 a21 v42
def l_L_law_1462 (L : Nat) (xs : Nat → Int32) (k1433 : Wd → Int32 → Int32 → Int32 → Int32 → Int32 → Int32 → Int32 → Int32 → Int32 → Int32 → Option Unit) : Nat → Wd → Int32 → Int32 → Int32 → Int32 → Int32 → Int32 → Int32 → Int32 → Int32 → Int32 → Int32 → Int32 → Option Unit
  | 0, _, _, _, _, _, _, _, _, _, _, _, _, _ => none
  | n + 1, σ, a24, a23, a22, a21, a20, a19, a17, a14, a12, a11, a10, a9 =>
  gd (inb (a19 + (12 : Int32)) 64) <|
  if (((8 : Int32) * a17) + (σ.1 71 0 (a19 + (12 : Int32)).toNatClampNeg)) ≤ a24 then
    if a21 ≤ a23 then
      k1433 σ (a22 + 1) a21 a20 a19 a17 a14 a12 a11 a10 a9
    else
      k1433 σ (a22 + 1) a23 a20 a19 a17 a14 a12 a11 a10 a9
  else
    gd (inb a24 64) <|
    if (σ.1 72 0 a24.toNatClampNeg) = 0 then
      if (σ.1 73 0 a24.toNatClampNeg) = a22 then
        gd (inb ((32 : Int32) + a24) 64) <|
        bd ((a23 - (σ.1 73 0 ((32 : Int32) + a24).toNatClampNeg))) fun x49 =>
        (l_L_law_1462 L xs k1433 n) σ (a24 + 1) x49 a22 a21 a20 a19 a17 a14 a12 a11 a10 a9
      else
        (l_L_law_1462 L xs k1433 n) σ (a24 + 1) (a23 - (0 : Int32)) a22 a21 a20 a19 a17 a14 a12 a11 a10 a9
    else
      (l_L_law_1462 L xs k1433 n) σ (a24 + 1) (a23 - (0 : Int32)) a22 a21 a20 a19 a17 a14 a12 a11 a10 a9
def l_L_law_1433 (L : Nat) (xs : Nat → Int32) (k600 : Wd → Int32 → Int32 → Int32 → Int32 → Int32 → Int32 → Option Unit) : Nat → Wd → Int32 → Int32 → Int32 → Int32 → Int32 → Int32 → Int32 → Int32 → Int32 → Int32 → Option Unit
  | 0, _, _, _, _, _, _, _, _, _, _, _ => none
  | n + 1, σ, a22, a21, a20, a19, a17, a14, a12, a11, a10, a9 =>
  if (4 : Int32) ≤ a22 then
    j_L_law_1542 L xs k600 σ a21 a20 a19 a17 a14 a12 a11 a10 a9
  else
    if a20 = 0 then
      j_L_law_1542 L xs k600 σ a21 a20 a19 a17 a14 a12 a11 a10 a9
    else
      gd (inb ((a19 + (2 : Int32)) + a22) 64) <|
      bd ((σ.1 71 0 ((a19 + (2 : Int32)) + a22).toNatClampNeg)) fun x48 =>
      l_L_law_1462 L xs (l_L_law_1433 L xs k600 n) FU σ ((8 : Int32) * a17) x48 a22 a21 a20 a19 a17 a14 a12 a11 a10 a9
def j_L_law_1424 (L : Nat) (xs : Nat → Int32) (k600 : Wd → Int32 → Int32 → Int32 → Int32 → Int32 → Int32 → Option Unit) (σ : Wd) (a19 : Int32) (a17 : Int32) (a14 : Int32) (a12 : Int32) (a11 : Int32) (a10 : Int32) (a9 : Int32) (s0 : Int32) : Option Unit :=
  l_L_law_1433 L xs k600 FU σ (0 : Int32) (100000 : Int32) s0 a19 a17 a14 a12 a11 a10 a9
def j_L_law_1423 (L : Nat) (xs : Nat → Int32) (k600 : Wd → Int32 → Int32 → Int32 → Int32 → Int32 → Int32 → Option Unit) (σ : Wd) (a19 : Int32) (a17 : Int32) (a14 : Int32) (a12 : Int32) (a11 : Int32) (a10 : Int32) (a9 : Int32) : Option Unit :=
  j_L_law_1424 L xs k600 σ a19 a17 a14 a12 a11 a10 a9 (0 : Int32)
def j_L_law_1779 (L : Nat) (xs : Nat → Int32) (k600 : Wd → Int32 → Int32 → Int32 → Int32 → Int32 → Int32 → Option Unit) (σ : Wd) (a13 : Int32) (a14 : Int32) (a12 : Int32) (a11 : Int32) (a10 : Int32) (a9 : Int32) : Option Unit :=
  j_L_law_1937 L xs k600 σ a13 a14 a12 a11 a10 a9
def j_L_law_1761 (L : Nat) (xs : Nat → Int32) (k600 : Wd → Int32 → Int32 → Int32 → Int32 → Int32 → Int32 → Option Unit) (σ : Wd) (a21 : Int32) (a20 : Int32) (a17 : Int32) (a14 : Int32) (a12 : Int32) (a11 : Int32) (a10 : Int32) (a9 : Int32) (s0 : Int32) : Option Unit :=
  if a21 < 0 then
    j_L_law_1779 L xs k600 σ s0 a14 a12 a11 a10 a9
  else
    bu (f_L_remove σ a17 a20) fun v54 σ55 =>
    j_L_law_1779 L xs k600 σ55 s0 a14 a12 a11 a10 a9
def j_L_law_1740 (L : Nat) (xs : Nat → Int32) (k600 : Wd → Int32 → Int32 → Int32 → Int32 → Int32 → Int32 → Option Unit) (σ : Wd) (a20 : Int32) (a17 : Int32) (a14 : Int32) (a12 : Int32) (a11 : Int32) (a10 : Int32) (a9 : Int32) (s0 : Int32) : Option Unit :=
  bv (g_shop σ (2 : Int32) a17 a20) fun v52 σ53 =>
  if v52 = s0 then
    j_L_law_1761 L xs k600 σ53 s0 a20 a17 a14 a12 a11 a10 a9 (1 : Int32)
  else
    j_L_law_1761 L xs k600 σ53 s0 a20 a17 a14 a12 a11 a10 a9 (0 : Int32)
def l_L_law_1888 (L : Nat) (xs : Nat → Int32) (k600 : Wd → Int32 → Int32 → Int32 → Int32 → Int32 → Int32 → Option Unit) : Nat → Wd → Int32 → Int32 → Int32 → Int32 → Int32 → Option Unit
  | 0, _, _, _, _, _, _ => none
  | n + 1, σ, a21, a13, a10, a14, a9 =>
  if (3 : Int32) ≤ a21 then
    j_L_law_1937 L xs k600 σ a13 a14 (0 : Int32) (0 : Int32) a10 (a9 + 1)
  else
    if a13 = 0 then
      (l_L_law_1888 L xs k600 n) σ (a21 + 1) (0 : Int32) a10 a14 a9
    else
      bu (f_X9_ran σ a21 a9) fun v64 σ65 =>
      gd (inb a21 3) <|
      if v64 = (σ65.1 77 0 a21.toNatClampNeg) then
        (l_L_law_1888 L xs k600 n) σ65 (a21 + 1) (1 : Int32) a10 a14 a9
      else
        (l_L_law_1888 L xs k600 n) σ65 (a21 + 1) (0 : Int32) a10 a14 a9
def j_L_law_1883 (L : Nat) (xs : Nat → Int32) (k600 : Wd → Int32 → Int32 → Int32 → Int32 → Int32 → Int32 → Option Unit) (σ : Wd) (a10 : Int32) (a14 : Int32) (a9 : Int32) (s0 : Int32) : Option Unit :=
  l_L_law_1888 L xs k600 FU σ (0 : Int32) s0 a10 a14 a9
def j_L_law_1882 (L : Nat) (xs : Nat → Int32) (k600 : Wd → Int32 → Int32 → Int32 → Int32 → Int32 → Int32 → Option Unit) (σ : Wd) (a10 : Int32) (a14 : Int32) (a9 : Int32) : Option Unit :=
  j_L_law_1883 L xs k600 σ a10 a14 a9 (0 : Int32)
def l_L_law_1827 (L : Nat) (xs : Nat → Int32) (k1817 : Wd → Int32 → Int32 → Int32 → Int32 → Int32 → Option Unit) : Nat → Wd → Int32 → Int32 → Int32 → Int32 → Int32 → Int32 → Option Unit
  | 0, _, _, _, _, _, _, _ => none
  | n + 1, σ, a22, a21, a10, a20, a14, a9 =>
  if (12 : Int32) ≤ a22 then
    k1817 σ (a21 + 1) a10 a20 a14 a9
  else
    gd (inb (((16 : Int32) * a21) + a22) 64) <|
    bd (wr σ 71 0 (((16 : Int32) * a21) + a22).toNatClampNeg ((σ.1 71 0 (((16 : Int32) * a21) + a22).toNatClampNeg) + (1 : Int32))) fun σ66 =>
    (l_L_law_1827 L xs k1817 n) σ66 (a22 + 1) a21 a10 a20 a14 a9
def l_L_law_1817 (L : Nat) (xs : Nat → Int32) (k600 : Wd → Int32 → Int32 → Int32 → Int32 → Int32 → Int32 → Option Unit) : Nat → Wd → Int32 → Int32 → Int32 → Int32 → Int32 → Option Unit
  | 0, _, _, _, _, _, _ => none
  | n + 1, σ, a21, a10, a20, a14, a9 =>
  if (4 : Int32) ≤ a21 then
    bu (f_X9_day σ) fun v60 σ61 =>
    if v60 = a20 then
      bu (f_X9_shunts σ61) fun v62 σ63 =>
      if v62 = a10 then
        j_L_law_1883 L xs k600 σ63 a10 a14 a9 (1 : Int32)
      else
        j_L_law_1882 L xs k600 σ63 a10 a14 a9
    else
      j_L_law_1882 L xs k600 σ61 a10 a14 a9
  else
    l_L_law_1827 L xs (l_L_law_1817 L xs k600 n) FU σ (9 : Int32) a21 a10 a20 a14 a9
def j_L_law_1397 (L : Nat) (xs : Nat → Int32) (k600 : Wd → Int32 → Int32 → Int32 → Int32 → Int32 → Int32 → Option Unit) (σ : Wd) (a11 : Int32) (a13 : Int32) (a14 : Int32) (a12 : Int32) (a10 : Int32) (a9 : Int32) : Option Unit :=
  j_L_law_1937 L xs k600 σ a13 a14 a12 a11 a10 a9
def l_L_law_1357 (L : Nat) (xs : Nat → Int32) (k600 : Wd → Int32 → Int32 → Int32 → Int32 → Int32 → Int32 → Option Unit) : Nat → Wd → Int32 → Int32 → Int32 → Int32 → Int32 → Int32 → Int32 → Int32 → Int32 → Int32 → Option Unit
  | 0, _, _, _, _, _, _, _, _, _, _, _ => none
  | n + 1, σ, a22, a11, a13, a21, a20, a19, a14, a12, a10, a9 =>
  if a20 < a22 then
    j_L_law_1397 L xs k600 σ a11 a13 a14 a12 a10 a9
  else
    if a21 = 0 then
      j_L_law_1397 L xs k600 σ a11 a13 a14 a12 a10 a9
    else
      gd (inb ((a19 + (6 : Int32)) + a22) 64) <|
      bd (wr σ 71 0 ((a19 + (6 : Int32)) + a22).toNatClampNeg (0 : Int32)) fun σ71 =>
      gd (inb ((a19 + (9 : Int32)) + a22) 64) <|
      bd (wr σ71 71 0 ((a19 + (9 : Int32)) + a22).toNatClampNeg (0 : Int32)) fun σ72 =>
      (l_L_law_1357 L xs k600 n) σ72 (a22 + 1) a11 a13 a21 a20 a19 a14 a12 a10 a9
def j_L_law_1352 (L : Nat) (xs : Nat → Int32) (k600 : Wd → Int32 → Int32 → Int32 → Int32 → Int32 → Int32 → Option Unit) (σ : Wd) (a13 : Int32) (a21 : Int32) (a20 : Int32) (a19 : Int32) (a14 : Int32) (a12 : Int32) (a10 : Int32) (a9 : Int32) (s0 : Int32) : Option Unit :=
  l_L_law_1357 L xs k600 FU σ (0 : Int32) s0 a13 a21 a20 a19 a14 a12 a10 a9
def j_L_law_1347 (L : Nat) (xs : Nat → Int32) (k600 : Wd → Int32 → Int32 → Int32 → Int32 → Int32 → Int32 → Option Unit) (σ : Wd) (a13 : Int32) (a21 : Int32) (a20 : Int32) (a19 : Int32) (a14 : Int32) (a12 : Int32) (a10 : Int32) (a9 : Int32) : Option Unit :=
  j_L_law_1352 L xs k600 σ a13 a21 a20 a19 a14 a12 a10 a9 (1 : Int32)
def j_L_law_1335 (L : Nat) (xs : Nat → Int32) (k600 : Wd → Int32 → Int32 → Int32 → Int32 → Int32 → Int32 → Option Unit) (σ : Wd) (a21 : Int32) (a20 : Int32) (a19 : Int32) (a14 : Int32) (a12 : Int32) (a11 : Int32) (a10 : Int32) (a9 : Int32) (s0 : Int32) : Option Unit :=
  if a11 = 0 then
    if a21 = 0 then
      j_L_law_1352 L xs k600 σ s0 a21 a20 a19 a14 a12 a10 a9 (0 : Int32)
    else
      j_L_law_1347 L xs k600 σ s0 a21 a20 a19 a14 a12 a10 a9
  else
    j_L_law_1347 L xs k600 σ s0 a21 a20 a19 a14 a12 a10 a9
def j_L_law_1327 (L : Nat) (xs : Nat → Int32) (k600 : Wd → Int32 → Int32 → Int32 → Int32 → Int32 → Int32 → Option Unit) (σ : Wd) (a21 : Int32) (a20 : Int32) (a19 : Int32) (a14 : Int32) (a12 : Int32) (a11 : Int32) (a10 : Int32) (a9 : Int32) (s0 : Int32) (s1 : Int32) : Option Unit :=
  if s1 = s0 then
    j_L_law_1335 L xs k600 σ a21 a20 a19 a14 a12 a11 a10 a9 (1 : Int32)
  else
    j_L_law_1335 L xs k600 σ a21 a20 a19 a14 a12 a11 a10 a9 (0 : Int32)
def j_L_law_1301 (L : Nat) (xs : Nat → Int32) (k600 : Wd → Int32 → Int32 → Int32 → Int32 → Int32 → Int32 → Option Unit) (σ : Wd) (a20 : Int32) (a19 : Int32) (a17 : Int32) (a14 : Int32) (a12 : Int32) (a11 : Int32) (a10 : Int32) (a9 : Int32) (s0 : Int32) : Option Unit :=
  bv (g_shop σ (0 : Int32) a17 a20) fun v69 σ70 =>
  if s0 = 0 then
    j_L_law_1327 L xs k600 σ70 s0 a20 a19 a14 a12 a11 a10 a9 (-1003 : Int32) v69
  else
    j_L_law_1327 L xs k600 σ70 s0 a20 a19 a14 a12 a11 a10 a9 (a20 + (1 : Int32)) v69
def j_L_law_1300 (L : Nat) (xs : Nat → Int32) (k600 : Wd → Int32 → Int32 → Int32 → Int32 → Int32 → Int32 → Option Unit) (σ : Wd) (a20 : Int32) (a19 : Int32) (a17 : Int32) (a14 : Int32) (a12 : Int32) (a11 : Int32) (a10 : Int32) (a9 : Int32) : Option Unit :=
  j_L_law_1301 L xs k600 σ a20 a19 a17 a14 a12 a11 a10 a9 (0 : Int32)
def j_L_law_902 (L : Nat) (xs : Nat → Int32) (k600 : Wd → Int32 → Int32 → Int32 → Int32 → Int32 → Int32 → Option Unit) (σ : Wd) (a13 : Int32) (a14 : Int32) (a12 : Int32) (a11 : Int32) (a10 : Int32) (a9 : Int32) : Option Unit :=
  j_L_law_1937 L xs k600 σ a13 a14 a12 a11 a10 a9
def j_L_law_890 (L : Nat) (xs : Nat → Int32) (k600 : Wd → Int32 → Int32 → Int32 → Int32 → Int32 → Int32 → Option Unit) (σ : Wd) (a13 : Int32) (a19 : Int32) (a14 : Int32) (a12 : Int32) (a11 : Int32) (a10 : Int32) (a9 : Int32) (s0 : Int32) (s1 : Int32) : Option Unit :=
  gd (inb s1 64) <|
  bd (wr σ 73 0 s1.toNatClampNeg s0) fun σ83 =>
  gd (inb (a19 + (12 : Int32)) 64) <|
  bd (wr σ83 71 0 (a19 + (12 : Int32)).toNatClampNeg ((σ83.1 71 0 (a19 + (12 : Int32)).toNatClampNeg) + (1 : Int32))) fun σ84 =>
  j_L_law_902 L xs k600 σ84 a13 a14 a12 a11 a10 a9
def j_L_law_862 (L : Nat) (xs : Nat → Int32) (k600 : Wd → Int32 → Int32 → Int32 → Int32 → Int32 → Int32 → Option Unit) (σ : Wd) (a13 : Int32) (a22 : Int32) (a21 : Int32) (a19 : Int32) (a18 : Int32) (a17 : Int32) (a14 : Int32) (a12 : Int32) (a11 : Int32) (a10 : Int32) (a9 : Int32) (s0 : Int32) (s1 : Int32) : Option Unit :=
  gd (inb s1 64) <|
  bd (wr σ 73 0 s1.toNatClampNeg s0) fun σ82 =>
  if (a18 - a18 / (2 : Int32) * (2 : Int32)) = (1 : Int32) then
    j_L_law_890 L xs k600 σ82 a13 a19 a14 a12 a11 a10 a9 (-1 : Int32) (((32 : Int32) + ((8 : Int32) * a17)) + a22)
  else
    j_L_law_890 L xs k600 σ82 a13 a19 a14 a12 a11 a10 a9 a21 (((32 : Int32) + ((8 : Int32) * a17)) + a22)
def j_L_law_804 (L : Nat) (xs : Nat → Int32) (k600 : Wd → Int32 → Int32 → Int32 → Int32 → Int32 → Int32 → Option Unit) (σ : Wd) (a22 : Int32) (a21 : Int32) (a20 : Int32) (a19 : Int32) (a18 : Int32) (a17 : Int32) (a14 : Int32) (a12 : Int32) (a11 : Int32) (a10 : Int32) (a9 : Int32) (s0 : Int32) : Option Unit :=
  if (8 : Int32) ≤ a22 then
    j_L_law_902 L xs k600 σ s0 a14 a12 a11 a10 a9
  else
    gd (inb (((8 : Int32) * a17) + a22) 64) <|
    bd (wr σ 72 0 (((8 : Int32) * a17) + a22).toNatClampNeg a18) fun σ80 =>
    gd (inb (((32 : Int32) + ((8 : Int32) * a17)) + a22) 64) <|
    bd (wr σ80 72 0 (((32 : Int32) + ((8 : Int32) * a17)) + a22).toNatClampNeg a9) fun σ81 =>
    if a18 ≤ (1 : Int32) then
      j_L_law_862 L xs k600 σ81 s0 a22 a21 a19 a18 a17 a14 a12 a11 a10 a9 a20 (((8 : Int32) * a17) + a22)
    else
      j_L_law_862 L xs k600 σ81 s0 a22 a21 a19 a18 a17 a14 a12 a11 a10 a9 (-1 : Int32) (((8 : Int32) * a17) + a22)
def j_L_law_796 (L : Nat) (xs : Nat → Int32) (k600 : Wd → Int32 → Int32 → Int32 → Int32 → Int32 → Int32 → Option Unit) (σ : Wd) (a22 : Int32) (a21 : Int32) (a20 : Int32) (a19 : Int32) (a18 : Int32) (a17 : Int32) (a14 : Int32) (a12 : Int32) (a11 : Int32) (a10 : Int32) (a9 : Int32) (s0 : Int32) (s1 : Int32) : Option Unit :=
  if s1 = s0 then
    j_L_law_804 L xs k600 σ a22 a21 a20 a19 a18 a17 a14 a12 a11 a10 a9 (1 : Int32)
  else
    j_L_law_804 L xs k600 σ a22 a21 a20 a19 a18 a17 a14 a12 a11 a10 a9 (0 : Int32)
def j_L_law_756 (L : Nat) (xs : Nat → Int32) (k600 : Wd → Int32 → Int32 → Int32 → Int32 → Int32 → Int32 → Option Unit) (σ : Wd) (a20 : Int32) (a19 : Int32) (a18 : Int32) (a17 : Int32) (a14 : Int32) (a12 : Int32) (a11 : Int32) (a10 : Int32) (a9 : Int32) (s0 : Int32) : Option Unit :=
  gd (inb (a19 + (12 : Int32)) 64) <|
  bd ((σ.1 71 0 (a19 + (12 : Int32)).toNatClampNeg)) fun x77 =>
  bv (g_told σ a17 a18 a20 s0) fun v78 σ79 =>
  if x77 = (8 : Int32) then
    j_L_law_796 L xs k600 σ79 x77 s0 a20 a19 a18 a17 a14 a12 a11 a10 a9 (-1003 : Int32) v78
  else
    j_L_law_796 L xs k600 σ79 x77 s0 a20 a19 a18 a17 a14 a12 a11 a10 a9 (x77 + (1 : Int32)) v78
def j_L_law_696 (L : Nat) (xs : Nat → Int32) (k600 : Wd → Int32 → Int32 → Int32 → Int32 → Int32 → Int32 → Option Unit) (σ : Wd) (a19 : Int32) (a18 : Int32) (a17 : Int32) (a15 : Int32) (a14 : Int32) (a12 : Int32) (a11 : Int32) (a10 : Int32) (a9 : Int32) (s0 : Int32) : Option Unit :=
  if a18 = 0 then
    bu (f_L_up σ (a15 / (512 : Int32)) (20 : Int32)) fun v75 σ76 =>
    j_L_law_756 L xs k600 σ76 s0 a19 a18 a17 a14 a12 a11 a10 a9 ((1 : Int32) + v75)
  else
    if a18 = (2 : Int32) then
      bu (f_L_up σ (a15 / (512 : Int32)) (100 : Int32)) fun v85 σ86 =>
      j_L_law_756 L xs k600 σ86 s0 a19 a18 a17 a14 a12 a11 a10 a9 ((1 : Int32) + v85)
    else
      bu (f_L_up σ (a15 / (512 : Int32)) (300 : Int32)) fun v87 σ88 =>
      j_L_law_756 L xs k600 σ88 s0 a19 a18 a17 a14 a12 a11 a10 a9 (v87 - (100 : Int32))
def l_L_law_600 (L : Nat) (xs : Nat → Int32) : Nat → Wd → Int32 → Int32 → Int32 → Int32 → Int32 → Int32 → Option Unit
  | 0, _, _, _, _, _, _, _ => none
  | n + 1, σ, a14, a13, a12, a11, a10, a9 =>
  if (67 : Int32) ≤ a14 then
    gd (a13 = 1) <| some ()
  else
    if a13 = 0 then
      gd (a13 = 1) <| some ()
    else
      gd (¬ Int32.ofNat L = 0 → inb (a14 - a14 / Int32.ofNat L * Int32.ofNat L) L) <|
      bd (cellF L xs a14) fun x1 =>
      bu (f_L_up σ x1 (14 : Int32)) fun v2 σ3 =>
      bu (f_L_up σ3 (x1 / (16 : Int32)) (4 : Int32)) fun v4 σ5 =>
      bu (f_L_up σ5 (x1 / (64 : Int32)) (4 : Int32)) fun v6 σ7 =>
      if (2 : Int32) ≤ v2 then
        if v2 = (2 : Int32) then
          bu (f_L_up σ7 (x1 / (256 : Int32)) (4 : Int32)) fun v8 σ9 =>
          if v8 = 0 then
            j_L_law_939 L xs (l_L_law_600 L xs n) σ9 v6 x1 a14 a12 a11 a10 a9 (-1 : Int32)
          else
            bu (f_L_up σ9 (x1 / (256 : Int32)) (31 : Int32)) fun v20 σ21 =>
            j_L_law_939 L xs (l_L_law_600 L xs n) σ21 v6 x1 a14 a12 a11 a10 a9 v20
        else
          if v2 = (3 : Int32) then
            bu (f_L_up σ7 (x1 / (256 : Int32)) (3 : Int32)) fun v22 σ23 =>
            if v22 = 0 then
              j_L_law_1070 L xs (l_L_law_600 L xs n) σ23 v22 x1 a14 a12 a11 a10 a9 (1500 : Int32) (x1 / (512 : Int32)) (100 : Int32) v22
            else
              j_L_law_1070 L xs (l_L_law_600 L xs n) σ23 v22 x1 a14 a12 a11 a10 a9 (9000 : Int32) (x1 / (512 : Int32)) (100 : Int32) v22
          else
            if v2 = (4 : Int32) then
              bu (f_L_up σ7 (x1 / (256 : Int32)) (3 : Int32)) fun v35 σ36 =>
              bu (f_L_up σ36 (x1 / (512 : Int32)) (3 : Int32)) fun v37 σ38 =>
              if v37 = 0 then
                j_L_law_1220 L xs (l_L_law_600 L xs n) σ38 v35 a14 a12 a11 a10 a9 (-1 : Int32)
              else
                j_L_law_1220 L xs (l_L_law_600 L xs n) σ38 v35 a14 a12 a11 a10 a9 v4
            else
              if (7 : Int32) ≤ v2 then
                if v2 = (7 : Int32) then
                  gd (inb ((16 : Int32) * v4) 64) <|
                  if (σ7.1 71 0 ((16 : Int32) * v4).toNatClampNeg) = 0 then
                    if a12 = 0 then
                      j_L_law_1424 L xs (l_L_law_600 L xs n) σ7 ((16 : Int32) * v4) v4 a14 a12 a11 a10 a9 (1 : Int32)
                    else
                      j_L_law_1423 L xs (l_L_law_600 L xs n) σ7 ((16 : Int32) * v4) v4 a14 a12 a11 a10 a9
                  else
                    j_L_law_1423 L xs (l_L_law_600 L xs n) σ7 ((16 : Int32) * v4) v4 a14 a12 a11 a10 a9
                else
                  if v2 = (8 : Int32) then
                    bu (f_L_up σ7 (x1 / (256 : Int32)) (4 : Int32)) fun v50 σ51 =>
                    gd (inb (((16 : Int32) * v4) + (12 : Int32)) 64) <|
                    if v50 < (σ51.1 71 0 (((16 : Int32) * v4) + (12 : Int32)).toNatClampNeg) then
                      gd (inb (((8 : Int32) * v4) + v50) 64) <|
                      if (σ51.1 72 0 (((8 : Int32) * v4) + v50).toNatClampNeg) = 0 then
                        j_L_law_1740 L xs (l_L_law_600 L xs n) σ51 v50 v4 a14 a12 a11 a10 a9 (-1003 : Int32)
                      else
                        j_L_law_1740 L xs (l_L_law_600 L xs n) σ51 v50 v4 a14 a12 a11 a10 a9 (σ51.1 72 0 (((8 : Int32) * v4) + v50).toNatClampNeg)
                    else
                      j_L_law_1740 L xs (l_L_law_600 L xs n) σ51 v50 v4 a14 a12 a11 a10 a9 (-1001 : Int32)
                  else
                    bu (f_L_allocates σ7 a9) fun v56 σ57 =>
                    bu (f_L_runs σ57) fun v58 σ59 =>
                    l_L_law_1817 L xs (l_L_law_600 L xs n) FU σ59 (0 : Int32) (a10 + v58) v56 a14 a9
              else
                bu (f_L_up σ7 (x1 / (256 : Int32)) (3 : Int32)) fun v67 σ68 =>
                gd (inb ((16 : Int32) * v4) 64) <|
                if (σ68.1 71 0 ((16 : Int32) * v4).toNatClampNeg) = 0 then
                  if a11 = 0 then
                    j_L_law_1301 L xs (l_L_law_600 L xs n) σ68 v67 ((16 : Int32) * v4) v4 a14 a12 a11 a10 a9 (1 : Int32)
                  else
                    j_L_law_1300 L xs (l_L_law_600 L xs n) σ68 v67 ((16 : Int32) * v4) v4 a14 a12 a11 a10 a9
                else
                  j_L_law_1300 L xs (l_L_law_600 L xs n) σ68 v67 ((16 : Int32) * v4) v4 a14 a12 a11 a10 a9
      else
        if v6 ≤ (1 : Int32) then
          bu (f_L_up σ7 (x1 / (256 : Int32)) (4 : Int32)) fun v73 σ74 =>
          j_L_law_696 L xs (l_L_law_600 L xs n) σ74 ((16 : Int32) * v4) v6 v4 x1 a14 a12 a11 a10 a9 v73
        else
          bu (f_L_up σ7 (x1 / (256 : Int32)) (9 : Int32)) fun v89 σ90 =>
          j_L_law_696 L xs (l_L_law_600 L xs n) σ90 ((16 : Int32) * v4) v6 v4 x1 a14 a12 a11 a10 a9 (v89 - (4 : Int32))
def l_L_law_575 (L : Nat) (xs : Nat → Int32) : Nat → Wd → Int32 → Int32 → Int32 → Int32 → Int32 → Int32 → Option Unit
  | 0, _, _, _, _, _, _, _ => none
  | n + 1, σ, a14, a13, a12, a11, a10, a9 =>
  if (4 : Int32) ≤ a14 then
    l_L_law_600 L xs 100 σ (7 : Int32) a13 a12 a11 a10 a9
  else
    gd (inb ((9 : Int32) + a14) 17) <|
    bd (wr σ 76 0 ((9 : Int32) + a14).toNatClampNeg (-1 : Int32)) fun σ91 =>
    (l_L_law_575 L xs n) σ91 (a14 + 1) a13 a12 a11 a10 a9
def j_L_law_526 (L : Nat) (xs : Nat → Int32) (k233 : Wd → Int32 → Int32 → Int32 → Int32 → Int32 → Int32 → Option Unit) (σ : Wd) (a13 : Int32) (a14 : Int32) (a12 : Int32) (a11 : Int32) (a10 : Int32) (a9 : Int32) (s0 : Int32) (s1 : Int32) : Option Unit :=
  gd (inb s1 17) <|
  bd (wr σ 76 0 s1.toNatClampNeg s0) fun σ117 =>
  gd (inb ((3 : Int32) + a14) 17) <|
  bd (wr σ117 76 0 ((3 : Int32) + a14).toNatClampNeg (10 : Int32)) fun σ118 =>
  if a14 = 0 then
    gd (inb ((6 : Int32) + a14) 17) <|
    bd (wr σ118 76 0 ((6 : Int32) + a14).toNatClampNeg (5 : Int32)) fun σ119 =>
    k233 σ119 (a14 + 1) a13 a12 a11 a10 a9
  else
    if a14 = (1 : Int32) then
      gd (inb ((6 : Int32) + a14) 17) <|
      bd (wr σ118 76 0 ((6 : Int32) + a14).toNatClampNeg (20 : Int32)) fun σ120 =>
      k233 σ120 (a14 + 1) a13 a12 a11 a10 a9
    else
      gd (inb ((6 : Int32) + a14) 17) <|
      bd (wr σ118 76 0 ((6 : Int32) + a14).toNatClampNeg (60 : Int32)) fun σ121 =>
      k233 σ121 (a14 + 1) a13 a12 a11 a10 a9
def j_L_law_494 (L : Nat) (xs : Nat → Int32) (k233 : Wd → Int32 → Int32 → Int32 → Int32 → Int32 → Int32 → Option Unit) (σ : Wd) (a14 : Int32) (a12 : Int32) (a11 : Int32) (a10 : Int32) (a9 : Int32) (s0 : Int32) : Option Unit :=
  if a14 = 0 then
    j_L_law_526 L xs k233 σ s0 a14 a12 a11 a10 a9 (1000 : Int32) a14
  else
    if a14 = (1 : Int32) then
      j_L_law_526 L xs k233 σ s0 a14 a12 a11 a10 a9 (3000 : Int32) a14
    else
      j_L_law_526 L xs k233 σ s0 a14 a12 a11 a10 a9 (9000 : Int32) a14
def j_L_law_493 (L : Nat) (xs : Nat → Int32) (k233 : Wd → Int32 → Int32 → Int32 → Int32 → Int32 → Int32 → Option Unit) (σ : Wd) (a14 : Int32) (a12 : Int32) (a11 : Int32) (a10 : Int32) (a9 : Int32) : Option Unit :=
  j_L_law_494 L xs k233 σ a14 a12 a11 a10 a9 (0 : Int32)
def j_L_law_411 (L : Nat) (xs : Nat → Int32) (k233 : Wd → Int32 → Int32 → Int32 → Int32 → Int32 → Int32 → Option Unit) (σ : Wd) (a14 : Int32) (a13 : Int32) (a12 : Int32) (a11 : Int32) (a10 : Int32) (a9 : Int32) (s0 : Int32) (s1 : Int32) (s2 : Int32) (s3 : Int32) : Option Unit :=
  bu (f_L_up σ s1 s0) fun v113 σ114 =>
  gd (inb s3 18) <|
  bd (wr σ114 75 0 s3.toNatClampNeg (s2 + v113)) fun σ115 =>
  gd (inb (((6 : Int32) * a14) + (5 : Int32)) 18) <|
  bd (wr σ115 75 0 (((6 : Int32) * a14) + (5 : Int32)).toNatClampNeg (-1 : Int32)) fun σ116 =>
  if a13 = 0 then
    j_L_law_493 L xs k233 σ116 a14 a12 a11 a10 a9
  else
    gd (inb ((6 : Int32) * a14) 18) <|
    gd (inb (((6 : Int32) * a14) + (1 : Int32)) 18) <|
    gd (inb (((6 : Int32) * a14) + (2 : Int32)) 18) <|
    gd (inb (((6 : Int32) * a14) + (3 : Int32)) 18) <|
    gd (inb (((6 : Int32) * a14) + (4 : Int32)) 18) <|
    bu (f_X9_diagram σ116 (σ116.1 75 0 ((6 : Int32) * a14).toNatClampNeg) (σ116.1 75 0 (((6 : Int32) * a14) + (1 : Int32)).toNatClampNeg) (σ116.1 75 0 (((6 : Int32) * a14) + (2 : Int32)).toNatClampNeg) (σ116.1 75 0 (((6 : Int32) * a14) + (3 : Int32)).toNatClampNeg) (σ116.1 75 0 (((6 : Int32) * a14) + (4 : Int32)).toNatClampNeg)) fun v122 σ123 =>
    if v122 = a14 then
      j_L_law_494 L xs k233 σ123 a14 a12 a11 a10 a9 (1 : Int32)
    else
      j_L_law_493 L xs k233 σ123 a14 a12 a11 a10 a9
def j_L_law_352 (L : Nat) (xs : Nat → Int32) (k233 : Wd → Int32 → Int32 → Int32 → Int32 → Int32 → Int32 → Option Unit) (σ : Wd) (a15 : Int32) (a14 : Int32) (a13 : Int32) (a12 : Int32) (a11 : Int32) (a10 : Int32) (a9 : Int32) (s0 : Int32) (s1 : Int32) (s2 : Int32) (s3 : Int32) : Option Unit :=
  bu (f_L_up σ s1 s0) fun v105 σ106 =>
  gd (inb s3 18) <|
  bd (wr σ106 75 0 s3.toNatClampNeg (s2 + v105)) fun σ107 =>
  bu (f_L_up σ107 (a15 / (128 : Int32)) (3 : Int32)) fun v108 σ109 =>
  gd (inb (((6 : Int32) * a14) + (3 : Int32)) 18) <|
  bd (wr σ109 75 0 (((6 : Int32) * a14) + (3 : Int32)).toNatClampNeg v108) fun σ110 =>
  bu (f_L_up σ110 (a15 / (16 : Int32)) (2 : Int32)) fun v111 σ112 =>
  if v111 = 0 then
    j_L_law_411 L xs k233 σ112 a14 a13 a12 a11 a10 a9 (3 : Int32) (a15 / (256 : Int32)) (1 : Int32) (((6 : Int32) * a14) + (4 : Int32))
  else
    j_L_law_411 L xs k233 σ112 a14 a13 a12 a11 a10 a9 (100 : Int32) (a15 / (256 : Int32)) (1 : Int32) (((6 : Int32) * a14) + (4 : Int32))
def j_L_law_315 (L : Nat) (xs : Nat → Int32) (k233 : Wd → Int32 → Int32 → Int32 → Int32 → Int32 → Int32 → Option Unit) (σ : Wd) (a15 : Int32) (a14 : Int32) (a13 : Int32) (a12 : Int32) (a11 : Int32) (a10 : Int32) (a9 : Int32) (s0 : Int32) (s1 : Int32) : Option Unit :=
  gd (inb s1 18) <|
  bd (wr σ 75 0 s1.toNatClampNeg s0) fun σ102 =>
  bu (f_L_up σ102 (a15 / (8 : Int32)) (3 : Int32)) fun v103 σ104 =>
  if v103 = 0 then
    j_L_law_352 L xs k233 σ104 a15 a14 a13 a12 a11 a10 a9 (2000 : Int32) (a15 / (64 : Int32)) (1 : Int32) (((6 : Int32) * a14) + (2 : Int32))
  else
    j_L_law_352 L xs k233 σ104 a15 a14 a13 a12 a11 a10 a9 (400 : Int32) (a15 / (64 : Int32)) (1 : Int32) (((6 : Int32) * a14) + (2 : Int32))
def j_L_law_279 (L : Nat) (xs : Nat → Int32) (k233 : Wd → Int32 → Int32 → Int32 → Int32 → Int32 → Int32 → Option Unit) (σ : Wd) (a15 : Int32) (a14 : Int32) (a13 : Int32) (a12 : Int32) (a11 : Int32) (a10 : Int32) (a9 : Int32) (s0 : Int32) (s1 : Int32) : Option Unit :=
  gd (inb s1 18) <|
  bd (wr σ 75 0 s1.toNatClampNeg s0) fun σ97 =>
  bu (f_L_up σ97 (a15 / (32 : Int32)) (5 : Int32)) fun v98 σ99 =>
  if (3 : Int32) ≤ v98 then
    bu (f_L_up σ99 (a15 / (64 : Int32)) (3 : Int32)) fun v100 σ101 =>
    j_L_law_315 L xs k233 σ101 a15 a14 a13 a12 a11 a10 a9 v100 (((6 : Int32) * a14) + (1 : Int32))
  else
    j_L_law_315 L xs k233 σ99 a15 a14 a13 a12 a11 a10 a9 (0 : Int32) (((6 : Int32) * a14) + (1 : Int32))
def l_L_law_233 (L : Nat) (xs : Nat → Int32) : Nat → Wd → Int32 → Int32 → Int32 → Int32 → Int32 → Int32 → Option Unit
  | 0, _, _, _, _, _, _, _ => none
  | n + 1, σ, a14, a13, a12, a11, a10, a9 =>
  if (3 : Int32) ≤ a14 then
    l_L_law_575 L xs FU σ (0 : Int32) a13 a12 a11 a10 a9
  else
    gd (¬ Int32.ofNat L = 0 → inb (((4 : Int32) + a14) - ((4 : Int32) + a14) / Int32.ofNat L * Int32.ofNat L) L) <|
    bd (cellF L xs ((4 : Int32) + a14)) fun x92 =>
    bu (f_L_up σ x92 (5 : Int32)) fun v93 σ94 =>
    if (3 : Int32) ≤ v93 then
      bu (f_L_up σ94 (x92 / (16 : Int32)) (3 : Int32)) fun v95 σ96 =>
      j_L_law_279 L xs (l_L_law_233 L xs n) σ96 x92 a14 a13 a12 a11 a10 a9 v95 ((6 : Int32) * a14)
    else
      j_L_law_279 L xs (l_L_law_233 L xs n) σ94 x92 a14 a13 a12 a11 a10 a9 (0 : Int32) ((6 : Int32) * a14)
def l_L_law_136 (L : Nat) (xs : Nat → Int32) (k65 : Wd → Int32 → Int32 → Int32 → Int32 → Int32 → Int32 → Option Unit) : Nat → Wd → Int32 → Int32 → Int32 → Int32 → Int32 → Int32 → Int32 → Int32 → Option Unit
  | 0, _, _, _, _, _, _, _, _, _ => none
  | n + 1, σ, a17, a16, a14, a13, a12, a11, a10, a9 =>
  if (6 : Int32) ≤ a17 then
    gd (inb ((12 : Int32) + a16) 16) <|
    gd (inb (((4 : Int32) * a16) + (σ.1 74 0 ((12 : Int32) + a16).toNatClampNeg)) 16) <|
    bd (wr σ 74 0 (((4 : Int32) * a16) + (σ.1 74 0 ((12 : Int32) + a16).toNatClampNeg)).toNatClampNeg a14) fun σ133 =>
    bd (wr σ133 74 0 ((12 : Int32) + a16).toNatClampNeg ((σ133.1 74 0 ((12 : Int32) + a16).toNatClampNeg) + (1 : Int32))) fun σ134 =>
    if a13 = 0 then
      k65 σ134 (a14 + 1) (0 : Int32) a12 a11 a10 a9
    else
      gd (inb (((16 : Int32) * a14) + (1 : Int32)) 64) <|
      bu (f_X9_unit σ134 a16 (σ134.1 71 0 (((16 : Int32) * a14) + (1 : Int32)).toNatClampNeg)) fun v135 σ136 =>
      if v135 = a14 then
        k65 σ136 (a14 + 1) (1 : Int32) a12 a11 a10 a9
      else
        k65 σ136 (a14 + 1) (0 : Int32) a12 a11 a10 a9
  else
    gd (inb (((16 : Int32) * a14) + a17) 64) <|
    bd (wr σ 71 0 (((16 : Int32) * a14) + a17).toNatClampNeg (900 : Int32)) fun σ137 =>
    (l_L_law_136 L xs k65 n) σ137 (a17 + 1) a16 a14 a13 a12 a11 a10 a9
def j_L_law_102 (L : Nat) (xs : Nat → Int32) (k65 : Wd → Int32 → Int32 → Int32 → Int32 → Int32 → Int32 → Option Unit) (σ : Wd) (a15 : Int32) (a14 : Int32) (a13 : Int32) (a12 : Int32) (a11 : Int32) (a10 : Int32) (a9 : Int32) (s0 : Int32) : Option Unit :=
  gd (inb ((16 : Int32) * a14) 64) <|
  bd (wr σ 71 0 ((16 : Int32) * a14).toNatClampNeg s0) fun σ129 =>
  bu (f_L_up σ129 (a15 / (16 : Int32)) (3000 : Int32)) fun v130 σ131 =>
  gd (inb (((16 : Int32) * a14) + (1 : Int32)) 64) <|
  bd (wr σ131 71 0 (((16 : Int32) * a14) + (1 : Int32)).toNatClampNeg v130) fun σ132 =>
  l_L_law_136 L xs k65 FU σ132 (2 : Int32) s0 a14 a13 a12 a11 a10 a9
def l_L_law_65 (L : Nat) (xs : Nat → Int32) : Nat → Wd → Int32 → Int32 → Int32 → Int32 → Int32 → Int32 → Option Unit
  | 0, _, _, _, _, _, _, _ => none
  | n + 1, σ, a14, a13, a12, a11, a10, a9 =>
  if (4 : Int32) ≤ a14 then
    l_L_law_233 L xs 8 σ (0 : Int32) a13 a12 a11 a10 a9
  else
    gd (¬ Int32.ofNat L = 0 → inb (a14 - a14 / Int32.ofNat L * Int32.ofNat L) L) <|
    bd (cellF L xs a14) fun x124 =>
    bu (f_L_up σ x124 (4 : Int32)) fun v125 σ126 =>
    if v125 = (3 : Int32) then
      bu (f_L_up σ126 (x124 / (16 : Int32)) (3 : Int32)) fun v127 σ128 =>
      j_L_law_102 L xs (l_L_law_65 L xs n) σ128 x124 a14 a13 a12 a11 a10 a9 v127
    else
      j_L_law_102 L xs (l_L_law_65 L xs n) σ126 x124 a14 a13 a12 a11 a10 a9 (0 : Int32)
def f_law (L : Nat) (xs : Nat → Int32) (σ : Wd) : Option Unit :=
  l_L_law_65 L xs 8 σ (0 : Int32) (1 : Int32) (0 : Int32) (0 : Int32) (0 : Int32) (0 : Int32)
theorem bj_L_law_1937 (X : Xt) (hst : X.1.stackTraces = false) (b L : Nat) (xs : Nat → Int32) (N : Nat) {k600 : Wd → Int32 → Int32 → Int32 → Int32 → Int32 → Int32 → Option Unit} (hk600 : ∀ (ad : Ad) (σ : Wd) (a14 : Int32) (a13 : Int32) (a12 : Int32) (a11 : Int32) (a10 : Int32) (a9 : Int32), Lk X b L xs (N) ad σ 600 [(14, .int a14), (13, .int a13), (12, .int a12), (11, .int a11), (10, .int a10), (9, .int a9), (0, .ref b), (1, .ref (ad 0 0)), (2, .ref (ad 71 0)), (3, .ref (ad 72 0)), (4, .ref (ad 73 0)), (5, .ref (ad 74 0)), (6, .ref (ad 75 0)), (7, .ref (ad 76 0)), (8, .ref (ad 77 0))] [] (k600 σ a14 a13 a12 a11 a10 a9)) (ad : Ad) (σ : Wd) (a13 : Int32) (a14 : Int32) (a12 : Int32) (a11 : Int32) (a10 : Int32) (a9 : Int32) : Lk X b L xs (N) ad σ 1937 [(13, .int a13), (14, .int a14), (12, .int a12), (11, .int a11), (10, .int a10), (9, .int a9), (0, .ref b), (1, .ref (ad 0 0)), (2, .ref (ad 71 0)), (3, .ref (ad 72 0)), (4, .ref (ad 73 0)), (5, .ref (ad 74 0)), (6, .ref (ad 75 0)), (7, .ref (ad 76 0)), (8, .ref (ad 77 0))] [] (j_L_law_1937 L xs k600 σ a13 a14 a12 a11 a10 a9) := by
  unfold j_L_law_1937
  refine k_iload 0 rfl dL_law_1937 ?_
  refine k_if_eq 1967 dL_law_1939 (by decide) ?_ ?_
  · refine k_iconst (0) (by decide) dL_law_1967 ?_
    refine k_istore [(13, .int _), (14, .int _), (12, .int _), (11, .int _), (10, .int _), (9, .int _), (0, .ref _), (1, .ref _), (2, .ref _), (3, .ref _), (4, .ref _), (5, .ref _), (6, .ref _), (7, .ref _), (8, .ref _)] rfl (by decide) dL_law_1968 ?_
    refine k_iinc (1) [(14, .int _), (13, .int _), (12, .int _), (11, .int _), (10, .int _), (9, .int _), (0, .ref _), (1, .ref _), (2, .ref _), (3, .ref _), (4, .ref _), (5, .ref _), (6, .ref _), (7, .ref _), (8, .ref _)] 1 rfl (by decide) rfl (by decide) dL_law_1970 ?_
    refine k_goto 600 dL_law_1973 (by decide) ?_
    exact k_less (by omega) (k_sub [0, 1, 2, 3, 4, 5, 6, 7, 8, 9, 10, 11, 12, 13, 14] rfl (hk600 ad _ _ _ _ _ _ _))
  · refine k_aload_n 7 rfl dL_law_1942 ?_
    refine k_aload_n 8 rfl dL_law_1943 ?_
    refine k_aload_n 9 rfl dL_law_1944 ?_
    refine k_aload 10 rfl dL_law_1945 ?_
    refine k_aload 11 rfl dL_law_1947 ?_
    refine k_aload 12 rfl dL_law_1949 ?_
    refine k_aload 13 rfl dL_law_1951 ?_
    refine k_iload 5 rfl dL_law_1953 ?_
    refine k_aload 14 rfl dL_law_1955 ?_
    refine k_callS (n := 9) (As := [.ref _, .ref _, .ref _, .ref _, .ref _, .ref _, .ref _, .int _, .ref _]) (nc_L_alike X hst ad _ _) ⟨by decide, by decide, by decide +kernel⟩ w_589 w_590 w_502 w_591 rfl rfl (Nat.le_of_ble_eq_true rfl) ⟨by decide, by decide⟩ dL_law_1957 (fun v16 σ17 => ?_)
    refine k_if_eq 1967 dL_law_1960 (by decide) ?_ ?_
    · refine k_iconst (0) (by decide) dL_law_1967 ?_
      refine k_istore [(13, .int _), (14, .int _), (12, .int _), (11, .int _), (10, .int _), (9, .int _), (0, .ref _), (1, .ref _), (2, .ref _), (3, .ref _), (4, .ref _), (5, .ref _), (6, .ref _), (7, .ref _), (8, .ref _)] rfl (by decide) dL_law_1968 ?_
      refine k_iinc (1) [(14, .int _), (13, .int _), (12, .int _), (11, .int _), (10, .int _), (9, .int _), (0, .ref _), (1, .ref _), (2, .ref _), (3, .ref _), (4, .ref _), (5, .ref _), (6, .ref _), (7, .ref _), (8, .ref _)] 1 rfl (by decide) rfl (by decide) dL_law_1970 ?_
      refine k_goto 600 dL_law_1973 (by decide) ?_
      exact k_less (by omega) (k_sub [0, 1, 2, 3, 4, 5, 6, 7, 8, 9, 10, 11, 12, 13, 14] rfl (hk600 ad _ _ _ _ _ _ _))
    · refine k_iconst (1) (by decide) dL_law_1963 ?_
      refine k_goto 1968 dL_law_1964 (by decide) ?_
      refine k_istore [(13, .int _), (14, .int _), (12, .int _), (11, .int _), (10, .int _), (9, .int _), (0, .ref _), (1, .ref _), (2, .ref _), (3, .ref _), (4, .ref _), (5, .ref _), (6, .ref _), (7, .ref _), (8, .ref _)] rfl (by decide) dL_law_1968 ?_
      refine k_iinc (1) [(14, .int _), (13, .int _), (12, .int _), (11, .int _), (10, .int _), (9, .int _), (0, .ref _), (1, .ref _), (2, .ref _), (3, .ref _), (4, .ref _), (5, .ref _), (6, .ref _), (7, .ref _), (8, .ref _)] 1 rfl (by decide) rfl (by decide) dL_law_1970 ?_
      refine k_goto 600 dL_law_1973 (by decide) ?_
      exact k_less (by omega) (k_sub [0, 1, 2, 3, 4, 5, 6, 7, 8, 9, 10, 11, 12, 13, 14] rfl (hk600 ad _ _ _ _ _ _ _))
theorem bj_L_law_1001 (X : Xt) (hst : X.1.stackTraces = false) (b L : Nat) (xs : Nat → Int32) (N : Nat) {k600 : Wd → Int32 → Int32 → Int32 → Int32 → Int32 → Int32 → Option Unit} (hk600 : ∀ (ad : Ad) (σ : Wd) (a14 : Int32) (a13 : Int32) (a12 : Int32) (a11 : Int32) (a10 : Int32) (a9 : Int32), Lk X b L xs (N) ad σ 600 [(14, .int a14), (13, .int a13), (12, .int a12), (11, .int a11), (10, .int a10), (9, .int a9), (0, .ref b), (1, .ref (ad 0 0)), (2, .ref (ad 71 0)), (3, .ref (ad 72 0)), (4, .ref (ad 73 0)), (5, .ref (ad 74 0)), (6, .ref (ad 75 0)), (7, .ref (ad 76 0)), (8, .ref (ad 77 0))] [] (k600 σ a14 a13 a12 a11 a10 a9)) (ad : Ad) (σ : Wd) (a21 : Int32) (a20 : Int32) (a18 : Int32) (a14 : Int32) (a12 : Int32) (a11 : Int32) (a10 : Int32) (a9 : Int32) (s0 : Int32) : Lk X b L xs (N + 1) ad σ 1001 [(21, .int a21), (20, .int a20), (18, .int a18), (14, .int a14), (12, .int a12), (11, .int a11), (10, .int a10), (9, .int a9), (0, .ref b), (1, .ref (ad 0 0)), (2, .ref (ad 71 0)), (3, .ref (ad 72 0)), (4, .ref (ad 73 0)), (5, .ref (ad 74 0)), (6, .ref (ad 75 0)), (7, .ref (ad 76 0)), (8, .ref (ad 77 0))] [.int s0] (j_L_law_1001 L xs k600 σ a21 a20 a18 a14 a12 a11 a10 a9 s0) := by
  unfold j_L_law_1001
  refine k_istore [(13, .int _), (21, .int _), (20, .int _), (18, .int _), (14, .int _), (12, .int _), (11, .int _), (10, .int _), (9, .int _), (0, .ref _), (1, .ref _), (2, .ref _), (3, .ref _), (4, .ref _), (5, .ref _), (6, .ref _), (7, .ref _), (8, .ref _)] rfl (by decide) dL_law_1001 ?_
  refine k_aload 16 rfl dL_law_1003 ?_
  refine k_bipush (9) (by decide) dL_law_1005 ?_
  refine k_iload 3 rfl dL_law_1007 ?_
  refine k_iadd dL_law_1009 ?_
  refine k_iload 2 rfl dL_law_1010 ?_
  refine k_gd (fun h3 => ?_)
  refine k_bd ?_
  refine k_iastore (lvs_76 _) (ia_76 _ _ _) h3 dL_law_1012 ?_
  refine k_aload 16 rfl dL_law_1013 ?_
  refine k_bipush (13) (by decide) dL_law_1015 ?_
  refine k_iload 3 rfl dL_law_1017 ?_
  refine k_iadd dL_law_1019 ?_
  refine k_iload 1 rfl dL_law_1020 ?_
  refine k_gd (fun h4 => ?_)
  refine k_bd ?_
  refine k_iastore (lvs_76 _) (ia_76 _ _ _) h4 dL_law_1022 ?_
  refine k_goto 1937 dL_law_1023 (by decide) ?_
  exact k_less (by omega) (k_sub [0, 4, 5, 6, 7, 8, 9, 10, 11, 12, 13, 14, 15, 16, 17] rfl (bj_L_law_1937 X hst b L xs N hk600 ad _ _ _ _ _ _ _))
theorem bj_L_law_973 (X : Xt) (hst : X.1.stackTraces = false) (b L : Nat) (xs : Nat → Int32) (N : Nat) {k600 : Wd → Int32 → Int32 → Int32 → Int32 → Int32 → Int32 → Option Unit} (hk600 : ∀ (ad : Ad) (σ : Wd) (a14 : Int32) (a13 : Int32) (a12 : Int32) (a11 : Int32) (a10 : Int32) (a9 : Int32), Lk X b L xs (N) ad σ 600 [(14, .int a14), (13, .int a13), (12, .int a12), (11, .int a11), (10, .int a10), (9, .int a9), (0, .ref b), (1, .ref (ad 0 0)), (2, .ref (ad 71 0)), (3, .ref (ad 72 0)), (4, .ref (ad 73 0)), (5, .ref (ad 74 0)), (6, .ref (ad 75 0)), (7, .ref (ad 76 0)), (8, .ref (ad 77 0))] [] (k600 σ a14 a13 a12 a11 a10 a9)) (ad : Ad) (σ : Wd) (a20 : Int32) (a18 : Int32) (a14 : Int32) (a12 : Int32) (a11 : Int32) (a10 : Int32) (a9 : Int32) (s0 : Int32) : Lk X b L xs (N + 1) ad σ 973 [(20, .int a20), (18, .int a18), (14, .int a14), (12, .int a12), (11, .int a11), (10, .int a10), (9, .int a9), (0, .ref b), (1, .ref (ad 0 0)), (2, .ref (ad 71 0)), (3, .ref (ad 72 0)), (4, .ref (ad 73 0)), (5, .ref (ad 74 0)), (6, .ref (ad 75 0)), (7, .ref (ad 76 0)), (8, .ref (ad 77 0))] [.int s0] (j_L_law_973 L xs k600 σ a20 a18 a14 a12 a11 a10 a9 s0) := by
  unfold j_L_law_973
  refine k_istore [(21, .int _), (20, .int _), (18, .int _), (14, .int _), (12, .int _), (11, .int _), (10, .int _), (9, .int _), (0, .ref _), (1, .ref _), (2, .ref _), (3, .ref _), (4, .ref _), (5, .ref _), (6, .ref _), (7, .ref _), (8, .ref _)] rfl (by decide) dL_law_973 ?_
  refine k_aload_n 9 rfl dL_law_975 ?_
  refine k_iload 2 rfl dL_law_976 ?_
  refine k_iload 1 rfl dL_law_978 ?_
  refine k_iload 0 rfl dL_law_980 ?_
  refine k_callV (n := 3) (As := [.int _, .int _, .int _]) (nc_X9_list X hst ad _ _ _ _) ⟨rfl, by decide, by decide, by decide +kernel⟩ w_585 w_586 w_587 w_203 w_588 rfl rfl (Nat.le_of_ble_eq_true rfl) ⟨by decide, by decide⟩ dL_law_982 (fun v12 σ13 => ?_)
  refine k_aload 15 rfl dL_law_985 ?_
  refine k_bipush (9) (by decide) dL_law_987 ?_
  refine k_iload 2 rfl dL_law_989 ?_
  refine k_iadd dL_law_991 ?_
  refine k_gd (fun h2 => ?_)
  refine k_iaload (lvs_76 _) (cell_76 _ _ _ _) h2 dL_law_992 ?_
  refine k_icmp_ne 1000 dL_law_993 (by decide) ?_ ?_
  · refine k_iconst (1) (by decide) dL_law_996 ?_
    refine k_goto 1001 dL_law_997 (by decide) ?_
    exact k_less (by omega) (k_sub [0, 1, 2, 3, 4, 5, 6, 7, 8, 9, 10, 11, 12, 13, 14, 15, 16] rfl (bj_L_law_1001 X hst b L xs N hk600 ad _ _ _ _ _ _ _ _ _ _))
  · refine k_iconst (0) (by decide) dL_law_1000 ?_
    exact k_less (by omega) (k_sub [0, 1, 2, 3, 4, 5, 6, 7, 8, 9, 10, 11, 12, 13, 14, 15, 16] rfl (bj_L_law_1001 X hst b L xs N hk600 ad _ _ _ _ _ _ _ _ _ _))
theorem bj_L_law_939 (X : Xt) (hst : X.1.stackTraces = false) (b L : Nat) (xs : Nat → Int32) (N : Nat) {k600 : Wd → Int32 → Int32 → Int32 → Int32 → Int32 → Int32 → Option Unit} (hk600 : ∀ (ad : Ad) (σ : Wd) (a14 : Int32) (a13 : Int32) (a12 : Int32) (a11 : Int32) (a10 : Int32) (a9 : Int32), Lk X b L xs (N) ad σ 600 [(14, .int a14), (13, .int a13), (12, .int a12), (11, .int a11), (10, .int a10), (9, .int a9), (0, .ref b), (1, .ref (ad 0 0)), (2, .ref (ad 71 0)), (3, .ref (ad 72 0)), (4, .ref (ad 73 0)), (5, .ref (ad 74 0)), (6, .ref (ad 75 0)), (7, .ref (ad 76 0)), (8, .ref (ad 77 0))] [] (k600 σ a14 a13 a12 a11 a10 a9)) (ad : Ad) (σ : Wd) (a18 : Int32) (a15 : Int32) (a14 : Int32) (a12 : Int32) (a11 : Int32) (a10 : Int32) (a9 : Int32) (s0 : Int32) : Lk X b L xs (N + 1) ad σ 939 [(18, .int a18), (15, .int a15), (14, .int a14), (12, .int a12), (11, .int a11), (10, .int a10), (9, .int a9), (0, .ref b), (1, .ref (ad 0 0)), (2, .ref (ad 71 0)), (3, .ref (ad 72 0)), (4, .ref (ad 73 0)), (5, .ref (ad 74 0)), (6, .ref (ad 75 0)), (7, .ref (ad 76 0)), (8, .ref (ad 77 0))] [.int s0] (j_L_law_939 L xs k600 σ a18 a15 a14 a12 a11 a10 a9 s0) := by
  unfold j_L_law_939
  refine k_istore [(20, .int _), (18, .int _), (15, .int _), (14, .int _), (12, .int _), (11, .int _), (10, .int _), (9, .int _), (0, .ref _), (1, .ref _), (2, .ref _), (3, .ref _), (4, .ref _), (5, .ref _), (6, .ref _), (7, .ref _), (8, .ref _)] rfl (by decide) dL_law_939 ?_
  refine k_iload 0 rfl dL_law_941 ?_
  refine k_if_ge 963 dL_law_943 (by decide) ?_ ?_
  · refine k_iload 2 rfl dL_law_963 ?_
    refine k_sipush (512) (by decide) dL_law_965 ?_
    refine k_idiv (by decide) dL_law_968 ?_
    refine k_iconst (3) (by decide) dL_law_969 ?_
    refine k_callS (n := 2) (As := [.int _, .int _]) (nc_L_up X hst ad _ _ _) ⟨by decide, by decide, by decide +kernel⟩ w_582 w_583 w_502 w_584 rfl rfl (Nat.le_of_ble_eq_true rfl) ⟨by decide, by decide⟩ dL_law_970 (fun v10 σ11 => ?_)
    exact k_less (by omega) (k_sub [0, 1, 3, 4, 5, 6, 7, 8, 9, 10, 11, 12, 13, 14, 15, 16] rfl (bj_L_law_973 X hst b L xs N hk600 ad _ _ _ _ _ _ _ _ _))
  · refine k_iload 2 rfl dL_law_946 ?_
    refine k_sipush (512) (by decide) dL_law_948 ?_
    refine k_idiv (by decide) dL_law_951 ?_
    refine k_bipush (99) (by decide) dL_law_952 ?_
    refine k_callS (n := 2) (As := [.int _, .int _]) (nc_L_up X hst ad _ _ _) ⟨by decide, by decide, by decide +kernel⟩ w_582 w_583 w_502 w_584 rfl rfl (Nat.le_of_ble_eq_true rfl) ⟨by decide, by decide⟩ dL_law_954 (fun v18 σ19 => ?_)
    refine k_bipush (50) (by decide) dL_law_957 ?_
    refine k_isub dL_law_959 ?_
    refine k_goto 973 dL_law_960 (by decide) ?_
    exact k_less (by omega) (k_sub [0, 1, 3, 4, 5, 6, 7, 8, 9, 10, 11, 12, 13, 14, 15, 16] rfl (bj_L_law_973 X hst b L xs N hk600 ad _ _ _ _ _ _ _ _ _))
theorem bj_L_law_1178 (X : Xt) (hst : X.1.stackTraces = false) (b L : Nat) (xs : Nat → Int32) (N : Nat) {k600 : Wd → Int32 → Int32 → Int32 → Int32 → Int32 → Int32 → Option Unit} (hk600 : ∀ (ad : Ad) (σ : Wd) (a14 : Int32) (a13 : Int32) (a12 : Int32) (a11 : Int32) (a10 : Int32) (a9 : Int32), Lk X b L xs (N) ad σ 600 [(14, .int a14), (13, .int a13), (12, .int a12), (11, .int a11), (10, .int a10), (9, .int a9), (0, .ref b), (1, .ref (ad 0 0)), (2, .ref (ad 71 0)), (3, .ref (ad 72 0)), (4, .ref (ad 73 0)), (5, .ref (ad 74 0)), (6, .ref (ad 75 0)), (7, .ref (ad 76 0)), (8, .ref (ad 77 0))] [] (k600 σ a14 a13 a12 a11 a10 a9)) (ad : Ad) (σ : Wd) (a14 : Int32) (a12 : Int32) (a11 : Int32) (a10 : Int32) (a9 : Int32) (s0 : Int32) : Lk X b L xs (N + 1) ad σ 1178 [(14, .int a14), (12, .int a12), (11, .int a11), (10, .int a10), (9, .int a9), (0, .ref b), (1, .ref (ad 0 0)), (2, .ref (ad 71 0)), (3, .ref (ad 72 0)), (4, .ref (ad 73 0)), (5, .ref (ad 74 0)), (6, .ref (ad 75 0)), (7, .ref (ad 76 0)), (8, .ref (ad 77 0))] [.int s0] (j_L_law_1178 L xs k600 σ a14 a12 a11 a10 a9 s0) := by
  unfold j_L_law_1178
  refine k_istore [(13, .int _), (14, .int _), (12, .int _), (11, .int _), (10, .int _), (9, .int _), (0, .ref _), (1, .ref _), (2, .ref _), (3, .ref _), (4, .ref _), (5, .ref _), (6, .ref _), (7, .ref _), (8, .ref _)] rfl (by decide) dL_law_1178 ?_
  refine k_goto 1937 dL_law_1180 (by decide) ?_
  exact k_less (by omega) (k_sub [0, 1, 2, 3, 4, 5, 6, 7, 8, 9, 10, 11, 12, 13, 14] rfl (bj_L_law_1937 X hst b L xs N hk600 ad _ _ _ _ _ _ _))
theorem bj_L_law_1118 (X : Xt) (hst : X.1.stackTraces = false) (b L : Nat) (xs : Nat → Int32) (N : Nat) {k600 : Wd → Int32 → Int32 → Int32 → Int32 → Int32 → Int32 → Option Unit} (hk600 : ∀ (ad : Ad) (σ : Wd) (a14 : Int32) (a13 : Int32) (a12 : Int32) (a11 : Int32) (a10 : Int32) (a9 : Int32), Lk X b L xs (N) ad σ 600 [(14, .int a14), (13, .int a13), (12, .int a12), (11, .int a11), (10, .int a10), (9, .int a9), (0, .ref b), (1, .ref (ad 0 0)), (2, .ref (ad 71 0)), (3, .ref (ad 72 0)), (4, .ref (ad 73 0)), (5, .ref (ad 74 0)), (6, .ref (ad 75 0)), (7, .ref (ad 76 0)), (8, .ref (ad 77 0))] [] (k600 σ a14 a13 a12 a11 a10 a9)) (ad : Ad) (σ : Wd) (a20 : Int32) (a14 : Int32) (a12 : Int32) (a11 : Int32) (a10 : Int32) (a9 : Int32) (s0 : Int32) (s1 : Int32) (s2 : Int32) : Lk X b L xs (N + 1) ad σ 1118 [(20, .int a20), (14, .int a14), (12, .int a12), (11, .int a11), (10, .int a10), (9, .int a9), (0, .ref b), (1, .ref (ad 0 0)), (2, .ref (ad 71 0)), (3, .ref (ad 72 0)), (4, .ref (ad 73 0)), (5, .ref (ad 74 0)), (6, .ref (ad 75 0)), (7, .ref (ad 76 0)), (8, .ref (ad 77 0))] [.int s0, .int s1, .int s2, .ref (ad 76 0)] (j_L_law_1118 L xs k600 σ a20 a14 a12 a11 a10 a9 s0 s1 s2) := by
  unfold j_L_law_1118
  refine k_callS (n := 2) (As := [.int _, .int _]) (nc_L_up X hst ad _ _ _) ⟨by decide, by decide, by decide +kernel⟩ w_582 w_583 w_502 w_584 rfl rfl (Nat.le_of_ble_eq_true rfl) ⟨by decide, by decide⟩ dL_law_1118 (fun v30 σ31 => ?_)
  refine k_gd (fun h7 => ?_)
  refine k_bd ?_
  refine k_iastore (lvs_76 _) (ia_76 _ _ _) h7 dL_law_1121 ?_
  refine k_aload_n 7 rfl dL_law_1122 ?_
  refine k_iload 0 rfl dL_law_1123 ?_
  refine k_aload 13 rfl dL_law_1125 ?_
  refine k_iload 0 rfl dL_law_1127 ?_
  refine k_gd (fun h8 => ?_)
  refine k_iaload (lvs_76 _) (cell_76 _ _ _ _) h8 dL_law_1129 ?_
  refine k_aload 13 rfl dL_law_1130 ?_
  refine k_iconst (3) (by decide) dL_law_1132 ?_
  refine k_iload 0 rfl dL_law_1133 ?_
  refine k_iadd dL_law_1135 ?_
  refine k_gd (fun h9 => ?_)
  refine k_iaload (lvs_76 _) (cell_76 _ _ _ _) h9 dL_law_1136 ?_
  refine k_aload 13 rfl dL_law_1137 ?_
  refine k_bipush (6) (by decide) dL_law_1139 ?_
  refine k_iload 0 rfl dL_law_1141 ?_
  refine k_iadd dL_law_1143 ?_
  refine k_gd (fun h10 => ?_)
  refine k_iaload (lvs_76 _) (cell_76 _ _ _ _) h10 dL_law_1144 ?_
  refine k_callV (n := 4) (As := [.int _, .int _, .int _, .int _]) (nc_X9_exam X hst ad _ _ _ _ _) ⟨rfl, by decide, by decide, by decide +kernel⟩ w_592 w_593 w_594 w_203 w_595 rfl rfl (Nat.le_of_ble_eq_true rfl) ⟨by decide, by decide⟩ dL_law_1145 (fun v33 σ34 => ?_)
  refine k_aload 13 rfl dL_law_1148 ?_
  refine k_iload 0 rfl dL_law_1150 ?_
  refine k_iaload (lvs_76 _) (cell_76 _ _ _ _) h8 dL_law_1152 ?_
  refine k_aload 13 rfl dL_law_1153 ?_
  refine k_iload 0 rfl dL_law_1155 ?_
  refine k_iaload (lvs_76 _) (cell_76 _ _ _ _) h8 dL_law_1157 ?_
  refine k_aload 13 rfl dL_law_1158 ?_
  refine k_iconst (3) (by decide) dL_law_1160 ?_
  refine k_iload 0 rfl dL_law_1161 ?_
  refine k_iadd dL_law_1163 ?_
  refine k_iaload (lvs_76 _) (cell_76 _ _ _ _) h9 dL_law_1164 ?_
  refine k_imul dL_law_1165 ?_
  refine k_bipush (100) (by decide) dL_law_1166 ?_
  refine k_idiv (by decide) dL_law_1168 ?_
  refine k_iadd dL_law_1169 ?_
  refine k_icmp_ne 1177 dL_law_1170 (by decide) ?_ ?_
  · refine k_iconst (1) (by decide) dL_law_1173 ?_
    refine k_goto 1178 dL_law_1174 (by decide) ?_
    exact k_less (by omega) (k_sub [1, 2, 3, 4, 5, 6, 7, 8, 9, 10, 11, 12, 13, 14] rfl (bj_L_law_1178 X hst b L xs N hk600 ad _ _ _ _ _ _ _))
  · refine k_iconst (0) (by decide) dL_law_1177 ?_
    exact k_less (by omega) (k_sub [1, 2, 3, 4, 5, 6, 7, 8, 9, 10, 11, 12, 13, 14] rfl (bj_L_law_1178 X hst b L xs N hk600 ad _ _ _ _ _ _ _))
theorem bj_L_law_1070 (X : Xt) (hst : X.1.stackTraces = false) (b L : Nat) (xs : Nat → Int32) (N : Nat) {k600 : Wd → Int32 → Int32 → Int32 → Int32 → Int32 → Int32 → Option Unit} (hk600 : ∀ (ad : Ad) (σ : Wd) (a14 : Int32) (a13 : Int32) (a12 : Int32) (a11 : Int32) (a10 : Int32) (a9 : Int32), Lk X b L xs (N) ad σ 600 [(14, .int a14), (13, .int a13), (12, .int a12), (11, .int a11), (10, .int a10), (9, .int a9), (0, .ref b), (1, .ref (ad 0 0)), (2, .ref (ad 71 0)), (3, .ref (ad 72 0)), (4, .ref (ad 73 0)), (5, .ref (ad 74 0)), (6, .ref (ad 75 0)), (7, .ref (ad 76 0)), (8, .ref (ad 77 0))] [] (k600 σ a14 a13 a12 a11 a10 a9)) (ad : Ad) (σ : Wd) (a20 : Int32) (a15 : Int32) (a14 : Int32) (a12 : Int32) (a11 : Int32) (a10 : Int32) (a9 : Int32) (s0 : Int32) (s1 : Int32) (s2 : Int32) (s3 : Int32) : Lk X b L xs (N + 1) ad σ 1070 [(20, .int a20), (15, .int a15), (14, .int a14), (12, .int a12), (11, .int a11), (10, .int a10), (9, .int a9), (0, .ref b), (1, .ref (ad 0 0)), (2, .ref (ad 71 0)), (3, .ref (ad 72 0)), (4, .ref (ad 73 0)), (5, .ref (ad 74 0)), (6, .ref (ad 75 0)), (7, .ref (ad 76 0)), (8, .ref (ad 77 0))] [.int s0, .int s1, .int s2, .int s3, .ref (ad 76 0)] (j_L_law_1070 L xs k600 σ a20 a15 a14 a12 a11 a10 a9 s0 s1 s2 s3) := by
  unfold j_L_law_1070
  refine k_callS (n := 2) (As := [.int _, .int _]) (nc_L_up X hst ad _ _ _) ⟨by decide, by decide, by decide +kernel⟩ w_582 w_583 w_502 w_584 rfl rfl (Nat.le_of_ble_eq_true rfl) ⟨by decide, by decide⟩ dL_law_1070 (fun v24 σ25 => ?_)
  refine k_iadd dL_law_1073 ?_
  refine k_gd (fun h5 => ?_)
  refine k_bd ?_
  refine k_iastore (lvs_76 _) (ia_76 _ _ _) h5 dL_law_1074 ?_
  refine k_aload 14 rfl dL_law_1075 ?_
  refine k_iconst (3) (by decide) dL_law_1077 ?_
  refine k_iload 0 rfl dL_law_1078 ?_
  refine k_iadd dL_law_1080 ?_
  refine k_iload 1 rfl dL_law_1081 ?_
  refine k_sipush (1024) (by decide) dL_law_1083 ?_
  refine k_idiv (by decide) dL_law_1086 ?_
  refine k_bipush (21) (by decide) dL_law_1087 ?_
  refine k_callS (n := 2) (As := [.int _, .int _]) (nc_L_up X hst ad _ _ _) ⟨by decide, by decide, by decide +kernel⟩ w_582 w_583 w_502 w_584 rfl rfl (Nat.le_of_ble_eq_true rfl) ⟨by decide, by decide⟩ dL_law_1089 (fun v27 σ28 => ?_)
  refine k_gd (fun h6 => ?_)
  refine k_bd ?_
  refine k_iastore (lvs_76 _) (ia_76 _ _ _) h6 dL_law_1092 ?_
  refine k_aload 14 rfl dL_law_1093 ?_
  refine k_bipush (6) (by decide) dL_law_1095 ?_
  refine k_iload 0 rfl dL_law_1097 ?_
  refine k_iadd dL_law_1099 ?_
  refine k_iload 1 rfl dL_law_1100 ?_
  refine k_sipush (2048) (by decide) dL_law_1102 ?_
  refine k_idiv (by decide) dL_law_1105 ?_
  refine k_iload 0 rfl dL_law_1106 ?_
  refine k_if_ne 1116 dL_law_1108 (by decide) ?_ ?_
  · refine k_bipush (9) (by decide) dL_law_1111 ?_
    refine k_goto 1118 dL_law_1113 (by decide) ?_
    exact k_less (by omega) (k_sub [0, 2, 3, 4, 5, 6, 7, 8, 9, 10, 11, 12, 13, 14, 15] rfl (bj_L_law_1118 X hst b L xs N hk600 ad _ _ _ _ _ _ _ _ _ _))
  · refine k_bipush (60) (by decide) dL_law_1116 ?_
    exact k_less (by omega) (k_sub [0, 2, 3, 4, 5, 6, 7, 8, 9, 10, 11, 12, 13, 14, 15] rfl (bj_L_law_1118 X hst b L xs N hk600 ad _ _ _ _ _ _ _ _ _ _))
theorem bj_L_law_1248 (X : Xt) (hst : X.1.stackTraces = false) (b L : Nat) (xs : Nat → Int32) (N : Nat) {k600 : Wd → Int32 → Int32 → Int32 → Int32 → Int32 → Int32 → Option Unit} (hk600 : ∀ (ad : Ad) (σ : Wd) (a14 : Int32) (a13 : Int32) (a12 : Int32) (a11 : Int32) (a10 : Int32) (a9 : Int32), Lk X b L xs (N) ad σ 600 [(14, .int a14), (13, .int a13), (12, .int a12), (11, .int a11), (10, .int a10), (9, .int a9), (0, .ref b), (1, .ref (ad 0 0)), (2, .ref (ad 71 0)), (3, .ref (ad 72 0)), (4, .ref (ad 73 0)), (5, .ref (ad 74 0)), (6, .ref (ad 75 0)), (7, .ref (ad 76 0)), (8, .ref (ad 77 0))] [] (k600 σ a14 a13 a12 a11 a10 a9)) (ad : Ad) (σ : Wd) (a21 : Int32) (a20 : Int32) (a14 : Int32) (a12 : Int32) (a11 : Int32) (a10 : Int32) (a9 : Int32) (s0 : Int32) : Lk X b L xs (N + 1) ad σ 1248 [(21, .int a21), (20, .int a20), (14, .int a14), (12, .int a12), (11, .int a11), (10, .int a10), (9, .int a9), (0, .ref b), (1, .ref (ad 0 0)), (2, .ref (ad 71 0)), (3, .ref (ad 72 0)), (4, .ref (ad 73 0)), (5, .ref (ad 74 0)), (6, .ref (ad 75 0)), (7, .ref (ad 76 0)), (8, .ref (ad 77 0))] [.int s0] (j_L_law_1248 L xs k600 σ a21 a20 a14 a12 a11 a10 a9 s0) := by
  unfold j_L_law_1248
  refine k_istore [(13, .int _), (21, .int _), (20, .int _), (14, .int _), (12, .int _), (11, .int _), (10, .int _), (9, .int _), (0, .ref _), (1, .ref _), (2, .ref _), (3, .ref _), (4, .ref _), (5, .ref _), (6, .ref _), (7, .ref _), (8, .ref _)] rfl (by decide) dL_law_1248 ?_
  refine k_aload 14 rfl dL_law_1250 ?_
  refine k_bipush (6) (by decide) dL_law_1252 ?_
  refine k_iload 2 rfl dL_law_1254 ?_
  refine k_imul dL_law_1256 ?_
  refine k_iconst (5) (by decide) dL_law_1257 ?_
  refine k_iadd dL_law_1258 ?_
  refine k_iload 1 rfl dL_law_1259 ?_
  refine k_gd (fun h12 => ?_)
  refine k_bd ?_
  refine k_iastore (lvs_75 _) (ia_75 _ _ _) h12 dL_law_1261 ?_
  refine k_goto 1937 dL_law_1262 (by decide) ?_
  exact k_less (by omega) (k_sub [0, 3, 4, 5, 6, 7, 8, 9, 10, 11, 12, 13, 14, 15, 16] rfl (bj_L_law_1937 X hst b L xs N hk600 ad _ _ _ _ _ _ _))
theorem bj_L_law_1220 (X : Xt) (hst : X.1.stackTraces = false) (b L : Nat) (xs : Nat → Int32) (N : Nat) {k600 : Wd → Int32 → Int32 → Int32 → Int32 → Int32 → Int32 → Option Unit} (hk600 : ∀ (ad : Ad) (σ : Wd) (a14 : Int32) (a13 : Int32) (a12 : Int32) (a11 : Int32) (a10 : Int32) (a9 : Int32), Lk X b L xs (N) ad σ 600 [(14, .int a14), (13, .int a13), (12, .int a12), (11, .int a11), (10, .int a10), (9, .int a9), (0, .ref b), (1, .ref (ad 0 0)), (2, .ref (ad 71 0)), (3, .ref (ad 72 0)), (4, .ref (ad 73 0)), (5, .ref (ad 74 0)), (6, .ref (ad 75 0)), (7, .ref (ad 76 0)), (8, .ref (ad 77 0))] [] (k600 σ a14 a13 a12 a11 a10 a9)) (ad : Ad) (σ : Wd) (a20 : Int32) (a14 : Int32) (a12 : Int32) (a11 : Int32) (a10 : Int32) (a9 : Int32) (s0 : Int32) : Lk X b L xs (N + 1) ad σ 1220 [(20, .int a20), (14, .int a14), (12, .int a12), (11, .int a11), (10, .int a10), (9, .int a9), (0, .ref b), (1, .ref (ad 0 0)), (2, .ref (ad 71 0)), (3, .ref (ad 72 0)), (4, .ref (ad 73 0)), (5, .ref (ad 74 0)), (6, .ref (ad 75 0)), (7, .ref (ad 76 0)), (8, .ref (ad 77 0))] [.int s0] (j_L_law_1220 L xs k600 σ a20 a14 a12 a11 a10 a9 s0) := by
  unfold j_L_law_1220
  refine k_istore [(21, .int _), (20, .int _), (14, .int _), (12, .int _), (11, .int _), (10, .int _), (9, .int _), (0, .ref _), (1, .ref _), (2, .ref _), (3, .ref _), (4, .ref _), (5, .ref _), (6, .ref _), (7, .ref _), (8, .ref _)] rfl (by decide) dL_law_1220 ?_
  refine k_aload_n 8 rfl dL_law_1222 ?_
  refine k_iload 1 rfl dL_law_1223 ?_
  refine k_iload 0 rfl dL_law_1225 ?_
  refine k_callV (n := 2) (As := [.int _, .int _]) (nc_X9_pin X hst ad _ _ _) ⟨rfl, by decide, by decide, by decide +kernel⟩ w_596 w_597 w_598 w_203 w_599 rfl rfl (Nat.le_of_ble_eq_true rfl) ⟨by decide, by decide⟩ dL_law_1227 (fun v39 σ40 => ?_)
  refine k_aload 13 rfl dL_law_1230 ?_
  refine k_bipush (6) (by decide) dL_law_1232 ?_
  refine k_iload 1 rfl dL_law_1234 ?_
  refine k_imul dL_law_1236 ?_
  refine k_iconst (5) (by decide) dL_law_1237 ?_
  refine k_iadd dL_law_1238 ?_
  refine k_gd (fun h11 => ?_)
  refine k_iaload (lvs_75 _) (cell_75 _ _ _ _) h11 dL_law_1239 ?_
  refine k_icmp_ne 1247 dL_law_1240 (by decide) ?_ ?_
  · refine k_iconst (1) (by decide) dL_law_1243 ?_
    refine k_goto 1248 dL_law_1244 (by decide) ?_
    exact k_less (by omega) (k_sub [0, 1, 2, 3, 4, 5, 6, 7, 8, 9, 10, 11, 12, 13, 14, 15] rfl (bj_L_law_1248 X hst b L xs N hk600 ad _ _ _ _ _ _ _ _ _))
  · refine k_iconst (0) (by decide) dL_law_1247 ?_
    exact k_less (by omega) (k_sub [0, 1, 2, 3, 4, 5, 6, 7, 8, 9, 10, 11, 12, 13, 14, 15] rfl (bj_L_law_1248 X hst b L xs N hk600 ad _ _ _ _ _ _ _ _ _))
theorem bj_L_law_1671 (X : Xt) (hst : X.1.stackTraces = false) (b L : Nat) (xs : Nat → Int32) (N : Nat) {k600 : Wd → Int32 → Int32 → Int32 → Int32 → Int32 → Int32 → Option Unit} (hk600 : ∀ (ad : Ad) (σ : Wd) (a14 : Int32) (a13 : Int32) (a12 : Int32) (a11 : Int32) (a10 : Int32) (a9 : Int32), Lk X b L xs (N) ad σ 600 [(14, .int a14), (13, .int a13), (12, .int a12), (11, .int a11), (10, .int a10), (9, .int a9), (0, .ref b), (1, .ref (ad 0 0)), (2, .ref (ad 71 0)), (3, .ref (ad 72 0)), (4, .ref (ad 73 0)), (5, .ref (ad 74 0)), (6, .ref (ad 75 0)), (7, .ref (ad 76 0)), (8, .ref (ad 77 0))] [] (k600 σ a14 a13 a12 a11 a10 a9)) (ad : Ad) (σ : Wd) (a12 : Int32) (a13 : Int32) (a14 : Int32) (a11 : Int32) (a10 : Int32) (a9 : Int32) : Lk X b L xs (N) ad σ 1671 [(12, .int a12), (13, .int a13), (14, .int a14), (11, .int a11), (10, .int a10), (9, .int a9), (0, .ref b), (1, .ref (ad 0 0)), (2, .ref (ad 71 0)), (3, .ref (ad 72 0)), (4, .ref (ad 73 0)), (5, .ref (ad 74 0)), (6, .ref (ad 75 0)), (7, .ref (ad 76 0)), (8, .ref (ad 77 0))] [] (j_L_law_1671 L xs k600 σ a12 a13 a14 a11 a10 a9) := by
  unfold j_L_law_1671
  refine k_goto 1937 dL_law_1671 (by decide) ?_
  exact k_less (by omega) (k_sub [1, 2, 0, 3, 4, 5, 6, 7, 8, 9, 10, 11, 12, 13, 14] rfl (bj_L_law_1937 X hst b L xs N hk600 ad _ _ _ _ _ _ _))
theorem bl_L_law_1631 (X : Xt) (hst : X.1.stackTraces = false) (b L : Nat) (xs : Nat → Int32) (N : Nat) {k600 : Wd → Int32 → Int32 → Int32 → Int32 → Int32 → Int32 → Option Unit} (hk600 : ∀ (ad : Ad) (σ : Wd) (a14 : Int32) (a13 : Int32) (a12 : Int32) (a11 : Int32) (a10 : Int32) (a9 : Int32), Lk X b L xs (N) ad σ 600 [(14, .int a14), (13, .int a13), (12, .int a12), (11, .int a11), (10, .int a10), (9, .int a9), (0, .ref b), (1, .ref (ad 0 0)), (2, .ref (ad 71 0)), (3, .ref (ad 72 0)), (4, .ref (ad 73 0)), (5, .ref (ad 74 0)), (6, .ref (ad 75 0)), (7, .ref (ad 76 0)), (8, .ref (ad 77 0))] [] (k600 σ a14 a13 a12 a11 a10 a9)) : ∀ (n : Nat) (ad : Ad) (σ : Wd) (a22 : Int32) (a12 : Int32) (a13 : Int32) (a20 : Int32) (a17 : Int32) (a14 : Int32) (a11 : Int32) (a10 : Int32) (a9 : Int32), Lk X b L xs (N) ad σ 1631 [(22, .int a22), (12, .int a12), (13, .int a13), (20, .int a20), (17, .int a17), (14, .int a14), (11, .int a11), (10, .int a10), (9, .int a9), (0, .ref b), (1, .ref (ad 0 0)), (2, .ref (ad 71 0)), (3, .ref (ad 72 0)), (4, .ref (ad 73 0)), (5, .ref (ad 74 0)), (6, .ref (ad 75 0)), (7, .ref (ad 76 0)), (8, .ref (ad 77 0))] [] (l_L_law_1631 L xs k600 n σ a22 a12 a13 a20 a17 a14 a11 a10 a9) := by
  intro n
  induction n with
  | zero => intros; exact k_none
  | succ n ih =>
  intro ad σ a22 a12 a13 a20 a17 a14 a11 a10 a9
  rw [l_L_law_1631]
  refine k_iload 0 rfl dL_law_1631 ?_
  refine k_if_lt 1671 dL_law_1633 (by decide) ?_ ?_
  · exact k_less (by omega) (k_sub [1, 2, 5, 6, 7, 8, 9, 10, 11, 12, 13, 14, 15, 16, 17] rfl (bj_L_law_1671 X hst b L xs N hk600 ad _ _ _ _ _ _ _))
  · refine k_iload 3 rfl dL_law_1636 ?_
    refine k_if_eq 1671 dL_law_1638 (by decide) ?_ ?_
    · exact k_less (by omega) (k_sub [1, 2, 5, 6, 7, 8, 9, 10, 11, 12, 13, 14, 15, 16, 17] rfl (bj_L_law_1671 X hst b L xs N hk600 ad _ _ _ _ _ _ _))
    · refine k_aload_n 12 rfl dL_law_1641 ?_
      refine k_bipush (8) (by decide) dL_law_1642 ?_
      refine k_iload 4 rfl dL_law_1644 ?_
      refine k_imul dL_law_1646 ?_
      refine k_iload 0 rfl dL_law_1647 ?_
      refine k_iadd dL_law_1649 ?_
      refine k_gd (fun h15 => ?_)
      refine k_iaload (lvs_72 _) (cell_72 _ _ _ _) h15 dL_law_1650 ?_
      refine k_if_ne 1665 dL_law_1651 (by decide) ?_ ?_
      · refine k_aload_n 11 rfl dL_law_1654 ?_
        refine k_aload_n 12 rfl dL_law_1655 ?_
        refine k_aload 13 rfl dL_law_1656 ?_
        refine k_iload 4 rfl dL_law_1658 ?_
        refine k_iload 0 rfl dL_law_1660 ?_
        refine k_callS (n := 5) (As := [.ref _, .ref _, .ref _, .int _, .int _]) (nc_L_remove X hst ad _ _ _) ⟨by decide, by decide, by decide +kernel⟩ w_603 w_604 w_502 w_605 rfl rfl (Nat.le_of_ble_eq_true rfl) ⟨by decide, by decide⟩ dL_law_1662 (fun v45 σ46 => ?_)
        refine k_iinc (-1) [(22, .int _), (12, .int _), (13, .int _), (20, .int _), (17, .int _), (14, .int _), (11, .int _), (10, .int _), (9, .int _), (0, .ref _), (1, .ref _), (2, .ref _), (3, .ref _), (4, .ref _), (5, .ref _), (6, .ref _), (7, .ref _), (8, .ref _)] 0 rfl (by decide) rfl (by decide) dL_law_1665 ?_
        refine k_goto 1631 dL_law_1668 (by decide) ?_
        exact k_less (by omega) (k_sub [0, 1, 2, 3, 4, 5, 6, 7, 8, 9, 10, 11, 12, 13, 14, 15, 16, 17] rfl (ih ad _ _ _ _ _ _ _ _ _ _))
      · refine k_iinc (-1) [(22, .int _), (12, .int _), (13, .int _), (20, .int _), (17, .int _), (14, .int _), (11, .int _), (10, .int _), (9, .int _), (0, .ref _), (1, .ref _), (2, .ref _), (3, .ref _), (4, .ref _), (5, .ref _), (6, .ref _), (7, .ref _), (8, .ref _)] 0 rfl (by decide) rfl (by decide) dL_law_1665 ?_
        refine k_goto 1631 dL_law_1668 (by decide) ?_
        exact k_less (by omega) (k_sub [0, 1, 2, 3, 4, 5, 6, 7, 8, 9, 10, 11, 12, 13, 14, 15, 16, 17] rfl (ih ad _ _ _ _ _ _ _ _ _ _))
theorem bj_L_law_1620 (X : Xt) (hst : X.1.stackTraces = false) (b L : Nat) (xs : Nat → Int32) (N : Nat) {k600 : Wd → Int32 → Int32 → Int32 → Int32 → Int32 → Int32 → Option Unit} (hk600 : ∀ (ad : Ad) (σ : Wd) (a14 : Int32) (a13 : Int32) (a12 : Int32) (a11 : Int32) (a10 : Int32) (a9 : Int32), Lk X b L xs (N) ad σ 600 [(14, .int a14), (13, .int a13), (12, .int a12), (11, .int a11), (10, .int a10), (9, .int a9), (0, .ref b), (1, .ref (ad 0 0)), (2, .ref (ad 71 0)), (3, .ref (ad 72 0)), (4, .ref (ad 73 0)), (5, .ref (ad 74 0)), (6, .ref (ad 75 0)), (7, .ref (ad 76 0)), (8, .ref (ad 77 0))] [] (k600 σ a14 a13 a12 a11 a10 a9)) (ad : Ad) (σ : Wd) (a12 : Int32) (a13 : Int32) (a20 : Int32) (a19 : Int32) (a17 : Int32) (a14 : Int32) (a11 : Int32) (a10 : Int32) (a9 : Int32) : Lk X b L xs (N) ad σ 1620 [(12, .int a12), (13, .int a13), (20, .int a20), (19, .int a19), (17, .int a17), (14, .int a14), (11, .int a11), (10, .int a10), (9, .int a9), (0, .ref b), (1, .ref (ad 0 0)), (2, .ref (ad 71 0)), (3, .ref (ad 72 0)), (4, .ref (ad 73 0)), (5, .ref (ad 74 0)), (6, .ref (ad 75 0)), (7, .ref (ad 76 0)), (8, .ref (ad 77 0))] [] (j_L_law_1620 L xs k600 σ a12 a13 a20 a19 a17 a14 a11 a10 a9) := by
  unfold j_L_law_1620
  refine k_aload_n 11 rfl dL_law_1620 ?_
  refine k_iload 3 rfl dL_law_1621 ?_
  refine k_bipush (12) (by decide) dL_law_1623 ?_
  refine k_iadd dL_law_1625 ?_
  refine k_gd (fun h14 => ?_)
  refine k_iaload (lvs_71 _) (cell_71 _ _ _ _) h14 dL_law_1626 ?_
  refine k_iconst (1) (by decide) dL_law_1627 ?_
  refine k_isub dL_law_1628 ?_
  refine k_bd ?_
  refine k_istore [(22, .int _), (12, .int _), (13, .int _), (20, .int _), (19, .int _), (17, .int _), (14, .int _), (11, .int _), (10, .int _), (9, .int _), (0, .ref _), (1, .ref _), (2, .ref _), (3, .ref _), (4, .ref _), (5, .ref _), (6, .ref _), (7, .ref _), (8, .ref _)] rfl (by decide) dL_law_1629 ?_
  exact k_less (by omega) (k_sub [0, 1, 2, 3, 5, 6, 7, 8, 9, 10, 11, 12, 13, 14, 15, 16, 17, 18] rfl (bl_L_law_1631 X hst b L xs N hk600 FU ad _ _ _ _ _ _ _ _ _ _))
theorem bl_L_law_1593 (X : Xt) (hst : X.1.stackTraces = false) (b L : Nat) (xs : Nat → Int32) (N : Nat) {k600 : Wd → Int32 → Int32 → Int32 → Int32 → Int32 → Int32 → Option Unit} (hk600 : ∀ (ad : Ad) (σ : Wd) (a14 : Int32) (a13 : Int32) (a12 : Int32) (a11 : Int32) (a10 : Int32) (a9 : Int32), Lk X b L xs (N) ad σ 600 [(14, .int a14), (13, .int a13), (12, .int a12), (11, .int a11), (10, .int a10), (9, .int a9), (0, .ref b), (1, .ref (ad 0 0)), (2, .ref (ad 71 0)), (3, .ref (ad 72 0)), (4, .ref (ad 73 0)), (5, .ref (ad 74 0)), (6, .ref (ad 75 0)), (7, .ref (ad 76 0)), (8, .ref (ad 77 0))] [] (k600 σ a14 a13 a12 a11 a10 a9)) : ∀ (n : Nat) (ad : Ad) (σ : Wd) (a22 : Int32) (a12 : Int32) (a13 : Int32) (a21 : Int32) (a20 : Int32) (a19 : Int32) (a17 : Int32) (a14 : Int32) (a11 : Int32) (a10 : Int32) (a9 : Int32), Lk X b L xs (N) ad σ 1593 [(22, .int a22), (12, .int a12), (13, .int a13), (21, .int a21), (20, .int a20), (19, .int a19), (17, .int a17), (14, .int a14), (11, .int a11), (10, .int a10), (9, .int a9), (0, .ref b), (1, .ref (ad 0 0)), (2, .ref (ad 71 0)), (3, .ref (ad 72 0)), (4, .ref (ad 73 0)), (5, .ref (ad 74 0)), (6, .ref (ad 75 0)), (7, .ref (ad 76 0)), (8, .ref (ad 77 0))] [] (l_L_law_1593 L xs k600 n σ a22 a12 a13 a21 a20 a19 a17 a14 a11 a10 a9) := by
  intro n
  induction n with
  | zero => intros; exact k_none
  | succ n ih =>
  intro ad σ a22 a12 a13 a21 a20 a19 a17 a14 a11 a10 a9
  rw [l_L_law_1593]
  refine k_iload 0 rfl dL_law_1593 ?_
  refine k_bipush (6) (by decide) dL_law_1595 ?_
  refine k_icmp_ge 1620 dL_law_1597 (by decide) ?_ ?_
  · exact k_less (by omega) (k_sub [1, 2, 4, 5, 6, 7, 8, 9, 10, 11, 12, 13, 14, 15, 16, 17, 18, 19] rfl (bj_L_law_1620 X hst b L xs N hk600 ad _ _ _ _ _ _ _ _ _ _))
  · refine k_iload 4 rfl dL_law_1600 ?_
    refine k_if_eq 1620 dL_law_1602 (by decide) ?_ ?_
    · exact k_less (by omega) (k_sub [1, 2, 4, 5, 6, 7, 8, 9, 10, 11, 12, 13, 14, 15, 16, 17, 18, 19] rfl (bj_L_law_1620 X hst b L xs N hk600 ad _ _ _ _ _ _ _ _ _ _))
    · refine k_aload_n 13 rfl dL_law_1605 ?_
      refine k_iload 5 rfl dL_law_1606 ?_
      refine k_iload 0 rfl dL_law_1608 ?_
      refine k_iadd dL_law_1610 ?_
      refine k_iload 3 rfl dL_law_1611 ?_
      refine k_gd (fun h16 => ?_)
      refine k_bd ?_
      refine k_iastore (lvs_71 _) (ia_71 _ _ _) h16 dL_law_1613 ?_
      refine k_iinc (1) [(22, .int _), (12, .int _), (13, .int _), (21, .int _), (20, .int _), (19, .int _), (17, .int _), (14, .int _), (11, .int _), (10, .int _), (9, .int _), (0, .ref _), (1, .ref _), (2, .ref _), (3, .ref _), (4, .ref _), (5, .ref _), (6, .ref _), (7, .ref _), (8, .ref _)] 0 rfl (by decide) rfl (by decide) dL_law_1614 ?_
      refine k_goto 1593 dL_law_1617 (by decide) ?_
      exact k_less (by omega) (k_sub [0, 1, 2, 3, 4, 5, 6, 7, 8, 9, 10, 11, 12, 13, 14, 15, 16, 17, 18, 19] rfl (ih ad _ _ _ _ _ _ _ _ _ _ _ _))
theorem bj_L_law_1588 (X : Xt) (hst : X.1.stackTraces = false) (b L : Nat) (xs : Nat → Int32) (N : Nat) {k600 : Wd → Int32 → Int32 → Int32 → Int32 → Int32 → Int32 → Option Unit} (hk600 : ∀ (ad : Ad) (σ : Wd) (a14 : Int32) (a13 : Int32) (a12 : Int32) (a11 : Int32) (a10 : Int32) (a9 : Int32), Lk X b L xs (N) ad σ 600 [(14, .int a14), (13, .int a13), (12, .int a12), (11, .int a11), (10, .int a10), (9, .int a9), (0, .ref b), (1, .ref (ad 0 0)), (2, .ref (ad 71 0)), (3, .ref (ad 72 0)), (4, .ref (ad 73 0)), (5, .ref (ad 74 0)), (6, .ref (ad 75 0)), (7, .ref (ad 76 0)), (8, .ref (ad 77 0))] [] (k600 σ a14 a13 a12 a11 a10 a9)) (ad : Ad) (σ : Wd) (a13 : Int32) (a21 : Int32) (a20 : Int32) (a19 : Int32) (a17 : Int32) (a14 : Int32) (a11 : Int32) (a10 : Int32) (a9 : Int32) (s0 : Int32) : Lk X b L xs (N) ad σ 1588 [(13, .int a13), (21, .int a21), (20, .int a20), (19, .int a19), (17, .int a17), (14, .int a14), (11, .int a11), (10, .int a10), (9, .int a9), (0, .ref b), (1, .ref (ad 0 0)), (2, .ref (ad 71 0)), (3, .ref (ad 72 0)), (4, .ref (ad 73 0)), (5, .ref (ad 74 0)), (6, .ref (ad 75 0)), (7, .ref (ad 76 0)), (8, .ref (ad 77 0))] [.int s0] (j_L_law_1588 L xs k600 σ a13 a21 a20 a19 a17 a14 a11 a10 a9 s0) := by
  unfold j_L_law_1588
  refine k_istore [(12, .int _), (13, .int _), (21, .int _), (20, .int _), (19, .int _), (17, .int _), (14, .int _), (11, .int _), (10, .int _), (9, .int _), (0, .ref _), (1, .ref _), (2, .ref _), (3, .ref _), (4, .ref _), (5, .ref _), (6, .ref _), (7, .ref _), (8, .ref _)] rfl (by decide) dL_law_1588 ?_
  refine k_iconst (2) (by decide) dL_law_1590 ?_
  refine k_istore [(22, .int _), (12, .int _), (13, .int _), (21, .int _), (20, .int _), (19, .int _), (17, .int _), (14, .int _), (11, .int _), (10, .int _), (9, .int _), (0, .ref _), (1, .ref _), (2, .ref _), (3, .ref _), (4, .ref _), (5, .ref _), (6, .ref _), (7, .ref _), (8, .ref _)] rfl (by decide) dL_law_1591 ?_
  exact k_less (by omega) (k_sub [0, 1, 2, 3, 4, 5, 6, 7, 8, 9, 10, 11, 12, 13, 14, 15, 16, 17, 18, 19] rfl (bl_L_law_1593 X hst b L xs N hk600 FU ad _ _ _ _ _ _ _ _ _ _ _ _))
theorem bj_L_law_1583 (X : Xt) (hst : X.1.stackTraces = false) (b L : Nat) (xs : Nat → Int32) (N : Nat) {k600 : Wd → Int32 → Int32 → Int32 → Int32 → Int32 → Int32 → Option Unit} (hk600 : ∀ (ad : Ad) (σ : Wd) (a14 : Int32) (a13 : Int32) (a12 : Int32) (a11 : Int32) (a10 : Int32) (a9 : Int32), Lk X b L xs (N) ad σ 600 [(14, .int a14), (13, .int a13), (12, .int a12), (11, .int a11), (10, .int a10), (9, .int a9), (0, .ref b), (1, .ref (ad 0 0)), (2, .ref (ad 71 0)), (3, .ref (ad 72 0)), (4, .ref (ad 73 0)), (5, .ref (ad 74 0)), (6, .ref (ad 75 0)), (7, .ref (ad 76 0)), (8, .ref (ad 77 0))] [] (k600 σ a14 a13 a12 a11 a10 a9)) (ad : Ad) (σ : Wd) (a13 : Int32) (a21 : Int32) (a20 : Int32) (a19 : Int32) (a17 : Int32) (a14 : Int32) (a11 : Int32) (a10 : Int32) (a9 : Int32) : Lk X b L xs (N) ad σ 1583 [(13, .int a13), (21, .int a21), (20, .int a20), (19, .int a19), (17, .int a17), (14, .int a14), (11, .int a11), (10, .int a10), (9, .int a9), (0, .ref b), (1, .ref (ad 0 0)), (2, .ref (ad 71 0)), (3, .ref (ad 72 0)), (4, .ref (ad 73 0)), (5, .ref (ad 74 0)), (6, .ref (ad 75 0)), (7, .ref (ad 76 0)), (8, .ref (ad 77 0))] [] (j_L_law_1583 L xs k600 σ a13 a21 a20 a19 a17 a14 a11 a10 a9) := by
  unfold j_L_law_1583
  refine k_iconst (1) (by decide) dL_law_1583 ?_
  refine k_goto 1588 dL_law_1584 (by decide) ?_
  exact k_less (by omega) (k_sub [0, 1, 2, 3, 4, 5, 6, 7, 8, 9, 10, 11, 12, 13, 14, 15, 16, 17] rfl (bj_L_law_1588 X hst b L xs N hk600 ad _ _ _ _ _ _ _ _ _ _ _))
theorem bj_L_law_1571 (X : Xt) (hst : X.1.stackTraces = false) (b L : Nat) (xs : Nat → Int32) (N : Nat) {k600 : Wd → Int32 → Int32 → Int32 → Int32 → Int32 → Int32 → Option Unit} (hk600 : ∀ (ad : Ad) (σ : Wd) (a14 : Int32) (a13 : Int32) (a12 : Int32) (a11 : Int32) (a10 : Int32) (a9 : Int32), Lk X b L xs (N) ad σ 600 [(14, .int a14), (13, .int a13), (12, .int a12), (11, .int a11), (10, .int a10), (9, .int a9), (0, .ref b), (1, .ref (ad 0 0)), (2, .ref (ad 71 0)), (3, .ref (ad 72 0)), (4, .ref (ad 73 0)), (5, .ref (ad 74 0)), (6, .ref (ad 75 0)), (7, .ref (ad 76 0)), (8, .ref (ad 77 0))] [] (k600 σ a14 a13 a12 a11 a10 a9)) (ad : Ad) (σ : Wd) (a21 : Int32) (a20 : Int32) (a19 : Int32) (a17 : Int32) (a14 : Int32) (a12 : Int32) (a11 : Int32) (a10 : Int32) (a9 : Int32) (s0 : Int32) : Lk X b L xs (N) ad σ 1571 [(21, .int a21), (20, .int a20), (19, .int a19), (17, .int a17), (14, .int a14), (12, .int a12), (11, .int a11), (10, .int a10), (9, .int a9), (0, .ref b), (1, .ref (ad 0 0)), (2, .ref (ad 71 0)), (3, .ref (ad 72 0)), (4, .ref (ad 73 0)), (5, .ref (ad 74 0)), (6, .ref (ad 75 0)), (7, .ref (ad 76 0)), (8, .ref (ad 77 0))] [.int s0] (j_L_law_1571 L xs k600 σ a21 a20 a19 a17 a14 a12 a11 a10 a9 s0) := by
  unfold j_L_law_1571
  refine k_istore [(13, .int _), (21, .int _), (20, .int _), (19, .int _), (17, .int _), (14, .int _), (12, .int _), (11, .int _), (10, .int _), (9, .int _), (0, .ref _), (1, .ref _), (2, .ref _), (3, .ref _), (4, .ref _), (5, .ref _), (6, .ref _), (7, .ref _), (8, .ref _)] rfl (by decide) dL_law_1571 ?_
  refine k_iload 6 rfl dL_law_1573 ?_
  refine k_if_ne 1583 dL_law_1575 (by decide) ?_ ?_
  · refine k_iload 2 rfl dL_law_1578 ?_
    refine k_if_eq 1587 dL_law_1580 (by decide) ?_ ?_
    · refine k_iconst (0) (by decide) dL_law_1587 ?_
      exact k_less (by omega) (k_sub [0, 1, 2, 3, 4, 5, 7, 8, 9, 10, 11, 12, 13, 14, 15, 16, 17, 18] rfl (bj_L_law_1588 X hst b L xs N hk600 ad _ _ _ _ _ _ _ _ _ _ _))
    · exact k_less (by omega) (k_sub [0, 1, 2, 3, 4, 5, 7, 8, 9, 10, 11, 12, 13, 14, 15, 16, 17, 18] rfl (bj_L_law_1583 X hst b L xs N hk600 ad _ _ _ _ _ _ _ _ _ _))
  · exact k_less (by omega) (k_sub [0, 1, 2, 3, 4, 5, 7, 8, 9, 10, 11, 12, 13, 14, 15, 16, 17, 18] rfl (bj_L_law_1583 X hst b L xs N hk600 ad _ _ _ _ _ _ _ _ _ _))
theorem bj_L_law_1563 (X : Xt) (hst : X.1.stackTraces = false) (b L : Nat) (xs : Nat → Int32) (N : Nat) {k600 : Wd → Int32 → Int32 → Int32 → Int32 → Int32 → Int32 → Option Unit} (hk600 : ∀ (ad : Ad) (σ : Wd) (a14 : Int32) (a13 : Int32) (a12 : Int32) (a11 : Int32) (a10 : Int32) (a9 : Int32), Lk X b L xs (N) ad σ 600 [(14, .int a14), (13, .int a13), (12, .int a12), (11, .int a11), (10, .int a10), (9, .int a9), (0, .ref b), (1, .ref (ad 0 0)), (2, .ref (ad 71 0)), (3, .ref (ad 72 0)), (4, .ref (ad 73 0)), (5, .ref (ad 74 0)), (6, .ref (ad 75 0)), (7, .ref (ad 76 0)), (8, .ref (ad 77 0))] [] (k600 σ a14 a13 a12 a11 a10 a9)) (ad : Ad) (σ : Wd) (a21 : Int32) (a20 : Int32) (a19 : Int32) (a17 : Int32) (a14 : Int32) (a12 : Int32) (a11 : Int32) (a10 : Int32) (a9 : Int32) (s0 : Int32) (s1 : Int32) : Lk X b L xs (N) ad σ 1563 [(21, .int a21), (20, .int a20), (19, .int a19), (17, .int a17), (14, .int a14), (12, .int a12), (11, .int a11), (10, .int a10), (9, .int a9), (0, .ref b), (1, .ref (ad 0 0)), (2, .ref (ad 71 0)), (3, .ref (ad 72 0)), (4, .ref (ad 73 0)), (5, .ref (ad 74 0)), (6, .ref (ad 75 0)), (7, .ref (ad 76 0)), (8, .ref (ad 77 0))] [.int s0, .int s1] (j_L_law_1563 L xs k600 σ a21 a20 a19 a17 a14 a12 a11 a10 a9 s0 s1) := by
  unfold j_L_law_1563
  refine k_icmp_ne 1570 dL_law_1563 (by decide) ?_ ?_
  · refine k_iconst (1) (by decide) dL_law_1566 ?_
    refine k_goto 1571 dL_law_1567 (by decide) ?_
    exact k_less (by omega) (k_sub [0, 1, 2, 3, 4, 5, 6, 7, 8, 9, 10, 11, 12, 13, 14, 15, 16, 17] rfl (bj_L_law_1571 X hst b L xs N hk600 ad _ _ _ _ _ _ _ _ _ _ _))
  · refine k_iconst (0) (by decide) dL_law_1570 ?_
    exact k_less (by omega) (k_sub [0, 1, 2, 3, 4, 5, 6, 7, 8, 9, 10, 11, 12, 13, 14, 15, 16, 17] rfl (bj_L_law_1571 X hst b L xs N hk600 ad _ _ _ _ _ _ _ _ _ _ _))
theorem bj_L_law_1542 (X : Xt) (hst : X.1.stackTraces = false) (b L : Nat) (xs : Nat → Int32) (N : Nat) {k600 : Wd → Int32 → Int32 → Int32 → Int32 → Int32 → Int32 → Option Unit} (hk600 : ∀ (ad : Ad) (σ : Wd) (a14 : Int32) (a13 : Int32) (a12 : Int32) (a11 : Int32) (a10 : Int32) (a9 : Int32), Lk X b L xs (N) ad σ 600 [(14, .int a14), (13, .int a13), (12, .int a12), (11, .int a11), (10, .int a10), (9, .int a9), (0, .ref b), (1, .ref (ad 0 0)), (2, .ref (ad 71 0)), (3, .ref (ad 72 0)), (4, .ref (ad 73 0)), (5, .ref (ad 74 0)), (6, .ref (ad 75 0)), (7, .ref (ad 76 0)), (8, .ref (ad 77 0))] [] (k600 σ a14 a13 a12 a11 a10 a9)) (ad : Ad) (σ : Wd) (a21 : Int32) (a20 : Int32) (a19 : Int32) (a17 : Int32) (a14 : Int32) (a12 : Int32) (a11 : Int32) (a10 : Int32) (a9 : Int32) : Lk X b L xs (N + 1) ad σ 1542 [(21, .int a21), (20, .int a20), (19, .int a19), (17, .int a17), (14, .int a14), (12, .int a12), (11, .int a11), (10, .int a10), (9, .int a9), (0, .ref b), (1, .ref (ad 0 0)), (2, .ref (ad 71 0)), (3, .ref (ad 72 0)), (4, .ref (ad 73 0)), (5, .ref (ad 74 0)), (6, .ref (ad 75 0)), (7, .ref (ad 76 0)), (8, .ref (ad 77 0))] [] (j_L_law_1542 L xs k600 σ a21 a20 a19 a17 a14 a12 a11 a10 a9) := by
  unfold j_L_law_1542
  refine k_aload_n 10 rfl dL_law_1542 ?_
  refine k_iconst (1) (by decide) dL_law_1543 ?_
  refine k_iload 3 rfl dL_law_1544 ?_
  refine k_iconst (0) (by decide) dL_law_1546 ?_
  refine k_callW (n := 4) (As := [.ref _, .int _, .int _, .int _]) (fun kv τ hg => wn_shop X hst ad _ _ _ _ kv τ hg) ⟨by decide, by decide, by decide +kernel⟩ w_601 w_602 w_502 w_557 rfl rfl (Nat.le_of_ble_eq_true rfl) ⟨by decide, by decide⟩ ⟨by decide, by decide⟩ dL_law_1547 (fun v42 σ43 a1 hFa1 => ?_)
  rw [← hFa1 0 0 (by decide), ← hFa1 71 0 (by decide), ← hFa1 72 0 (by decide), ← hFa1 73 0 (by decide), ← hFa1 74 0 (by decide), ← hFa1 75 0 (by decide), ← hFa1 76 0 (by decide), ← hFa1 77 0 (by decide)]
  refine k_iload 1 rfl dL_law_1550 ?_
  refine k_if_eq 1560 dL_law_1552 (by decide) ?_ ?_
  · refine k_sipush (-1003) (by decide) dL_law_1560 ?_
    exact k_less (by omega) (k_sub [0, 1, 2, 3, 4, 5, 6, 7, 8, 9, 10, 11, 12, 13, 14, 15, 16, 17] rfl (bj_L_law_1563 X hst b L xs N hk600 a1 _ _ _ _ _ _ _ _ _ _ _ _))
  · refine k_iload 0 rfl dL_law_1555 ?_
    refine k_goto 1563 dL_law_1557 (by decide) ?_
    exact k_less (by omega) (k_sub [0, 1, 2, 3, 4, 5, 6, 7, 8, 9, 10, 11, 12, 13, 14, 15, 16, 17] rfl (bj_L_law_1563 X hst b L xs N hk600 a1 _ _ _ _ _ _ _ _ _ _ _ _))
theorem bl_L_law_1462 (X : Xt) (hst : X.1.stackTraces = false) (b L : Nat) (xs : Nat → Int32) (N : Nat) {k1433 : Wd → Int32 → Int32 → Int32 → Int32 → Int32 → Int32 → Int32 → Int32 → Int32 → Int32 → Option Unit} (hk1433 : ∀ (ad : Ad) (σ : Wd) (a22 : Int32) (a21 : Int32) (a20 : Int32) (a19 : Int32) (a17 : Int32) (a14 : Int32) (a12 : Int32) (a11 : Int32) (a10 : Int32) (a9 : Int32), Lk X b L xs (N + 1) ad σ 1433 [(22, .int a22), (21, .int a21), (20, .int a20), (19, .int a19), (17, .int a17), (14, .int a14), (12, .int a12), (11, .int a11), (10, .int a10), (9, .int a9), (0, .ref b), (1, .ref (ad 0 0)), (2, .ref (ad 71 0)), (3, .ref (ad 72 0)), (4, .ref (ad 73 0)), (5, .ref (ad 74 0)), (6, .ref (ad 75 0)), (7, .ref (ad 76 0)), (8, .ref (ad 77 0))] [] (k1433 σ a22 a21 a20 a19 a17 a14 a12 a11 a10 a9)) : ∀ (n : Nat) (ad : Ad) (σ : Wd) (a24 : Int32) (a23 : Int32) (a22 : Int32) (a21 : Int32) (a20 : Int32) (a19 : Int32) (a17 : Int32) (a14 : Int32) (a12 : Int32) (a11 : Int32) (a10 : Int32) (a9 : Int32), Lk X b L xs (N + 1) ad σ 1462 [(24, .int a24), (23, .int a23), (22, .int a22), (21, .int a21), (20, .int a20), (19, .int a19), (17, .int a17), (14, .int a14), (12, .int a12), (11, .int a11), (10, .int a10), (9, .int a9), (0, .ref b), (1, .ref (ad 0 0)), (2, .ref (ad 71 0)), (3, .ref (ad 72 0)), (4, .ref (ad 73 0)), (5, .ref (ad 74 0)), (6, .ref (ad 75 0)), (7, .ref (ad 76 0)), (8, .ref (ad 77 0))] [] (l_L_law_1462 L xs k1433 n σ a24 a23 a22 a21 a20 a19 a17 a14 a12 a11 a10 a9) := by
  intro n
  induction n with
  | zero => intros; exact k_none
  | succ n ih =>
  intro ad σ a24 a23 a22 a21 a20 a19 a17 a14 a12 a11 a10 a9
  rw [l_L_law_1462]
  refine k_iload 0 rfl dL_law_1462 ?_
  refine k_bipush (8) (by decide) dL_law_1464 ?_
  refine k_iload 6 rfl dL_law_1466 ?_
  refine k_imul dL_law_1468 ?_
  refine k_aload_n 14 rfl dL_law_1469 ?_
  refine k_iload 5 rfl dL_law_1470 ?_
  refine k_bipush (12) (by decide) dL_law_1472 ?_
  refine k_iadd dL_law_1474 ?_
  refine k_gd (fun h18 => ?_)
  refine k_iaload (lvs_71 _) (cell_71 _ _ _ _) h18 dL_law_1475 ?_
  refine k_iadd dL_law_1476 ?_
  refine k_icmp_ge 1520 dL_law_1477 (by decide) ?_ ?_
  · refine k_iload 1 rfl dL_law_1520 ?_
    refine k_iload 3 rfl dL_law_1522 ?_
    refine k_icmp_ge 1532 dL_law_1524 (by decide) ?_ ?_
    · refine k_iload 3 rfl dL_law_1532 ?_
      refine k_istore [(21, .int _), (24, .int _), (23, .int _), (22, .int _), (20, .int _), (19, .int _), (17, .int _), (14, .int _), (12, .int _), (11, .int _), (10, .int _), (9, .int _), (0, .ref _), (1, .ref _), (2, .ref _), (3, .ref _), (4, .ref _), (5, .ref _), (6, .ref _), (7, .ref _), (8, .ref _)] rfl (by decide) dL_law_1534 ?_
      refine k_iinc (1) [(22, .int _), (21, .int _), (24, .int _), (23, .int _), (20, .int _), (19, .int _), (17, .int _), (14, .int _), (12, .int _), (11, .int _), (10, .int _), (9, .int _), (0, .ref _), (1, .ref _), (2, .ref _), (3, .ref _), (4, .ref _), (5, .ref _), (6, .ref _), (7, .ref _), (8, .ref _)] 3 rfl (by decide) rfl (by decide) dL_law_1536 ?_
      refine k_goto 1433 dL_law_1539 (by decide) ?_
      exact k_less (by omega) (k_sub [0, 1, 4, 5, 6, 7, 8, 9, 10, 11, 12, 13, 14, 15, 16, 17, 18, 19, 20] rfl (hk1433 ad _ _ _ _ _ _ _ _ _ _ _))
    · refine k_iload 1 rfl dL_law_1527 ?_
      refine k_goto 1534 dL_law_1529 (by decide) ?_
      refine k_istore [(21, .int _), (24, .int _), (23, .int _), (22, .int _), (20, .int _), (19, .int _), (17, .int _), (14, .int _), (12, .int _), (11, .int _), (10, .int _), (9, .int _), (0, .ref _), (1, .ref _), (2, .ref _), (3, .ref _), (4, .ref _), (5, .ref _), (6, .ref _), (7, .ref _), (8, .ref _)] rfl (by decide) dL_law_1534 ?_
      refine k_iinc (1) [(22, .int _), (21, .int _), (24, .int _), (23, .int _), (20, .int _), (19, .int _), (17, .int _), (14, .int _), (12, .int _), (11, .int _), (10, .int _), (9, .int _), (0, .ref _), (1, .ref _), (2, .ref _), (3, .ref _), (4, .ref _), (5, .ref _), (6, .ref _), (7, .ref _), (8, .ref _)] 3 rfl (by decide) rfl (by decide) dL_law_1536 ?_
      refine k_goto 1433 dL_law_1539 (by decide) ?_
      exact k_less (by omega) (k_sub [0, 1, 4, 5, 6, 7, 8, 9, 10, 11, 12, 13, 14, 15, 16, 17, 18, 19, 20] rfl (hk1433 ad _ _ _ _ _ _ _ _ _ _ _))
  · refine k_iload 1 rfl dL_law_1480 ?_
    refine k_aload_n 15 rfl dL_law_1482 ?_
    refine k_iload 0 rfl dL_law_1483 ?_
    refine k_gd (fun h19 => ?_)
    refine k_iaload (lvs_72 _) (cell_72 _ _ _ _) h19 dL_law_1485 ?_
    refine k_if_ne 1510 dL_law_1486 (by decide) ?_ ?_
    · refine k_aload 16 rfl dL_law_1489 ?_
      refine k_iload 0 rfl dL_law_1491 ?_
      refine k_iaload (lvs_73 _) (cell_73 _ _ _ _) h19 dL_law_1493 ?_
      refine k_iload 2 rfl dL_law_1494 ?_
      refine k_icmp_ne 1510 dL_law_1496 (by decide) ?_ ?_
      · refine k_aload 16 rfl dL_law_1499 ?_
        refine k_bipush (32) (by decide) dL_law_1501 ?_
        refine k_iload 0 rfl dL_law_1503 ?_
        refine k_iadd dL_law_1505 ?_
        refine k_gd (fun h20 => ?_)
        refine k_iaload (lvs_73 _) (cell_73 _ _ _ _) h20 dL_law_1506 ?_
        refine k_goto 1511 dL_law_1507 (by decide) ?_
        refine k_isub dL_law_1511 ?_
        refine k_bd ?_
        refine k_istore [(23, .int _), (24, .int _), (22, .int _), (21, .int _), (20, .int _), (19, .int _), (17, .int _), (14, .int _), (12, .int _), (11, .int _), (10, .int _), (9, .int _), (0, .ref _), (1, .ref _), (2, .ref _), (3, .ref _), (4, .ref _), (5, .ref _), (6, .ref _), (7, .ref _), (8, .ref _)] rfl (by decide) dL_law_1512 ?_
        refine k_iinc (1) [(24, .int _), (23, .int _), (22, .int _), (21, .int _), (20, .int _), (19, .int _), (17, .int _), (14, .int _), (12, .int _), (11, .int _), (10, .int _), (9, .int _), (0, .ref _), (1, .ref _), (2, .ref _), (3, .ref _), (4, .ref _), (5, .ref _), (6, .ref _), (7, .ref _), (8, .ref _)] 1 rfl (by decide) rfl (by decide) dL_law_1514 ?_
        refine k_goto 1462 dL_law_1517 (by decide) ?_
        exact k_less (by omega) (k_sub [0, 1, 2, 3, 4, 5, 6, 7, 8, 9, 10, 11, 12, 13, 14, 15, 16, 17, 18, 19, 20] rfl (ih ad _ _ _ _ _ _ _ _ _ _ _ _ _))
      · refine k_iconst (0) (by decide) dL_law_1510 ?_
        refine k_isub dL_law_1511 ?_
        refine k_istore [(23, .int _), (24, .int _), (22, .int _), (21, .int _), (20, .int _), (19, .int _), (17, .int _), (14, .int _), (12, .int _), (11, .int _), (10, .int _), (9, .int _), (0, .ref _), (1, .ref _), (2, .ref _), (3, .ref _), (4, .ref _), (5, .ref _), (6, .ref _), (7, .ref _), (8, .ref _)] rfl (by decide) dL_law_1512 ?_
        refine k_iinc (1) [(24, .int _), (23, .int _), (22, .int _), (21, .int _), (20, .int _), (19, .int _), (17, .int _), (14, .int _), (12, .int _), (11, .int _), (10, .int _), (9, .int _), (0, .ref _), (1, .ref _), (2, .ref _), (3, .ref _), (4, .ref _), (5, .ref _), (6, .ref _), (7, .ref _), (8, .ref _)] 1 rfl (by decide) rfl (by decide) dL_law_1514 ?_
        refine k_goto 1462 dL_law_1517 (by decide) ?_
        exact k_less (by omega) (k_sub [0, 1, 2, 3, 4, 5, 6, 7, 8, 9, 10, 11, 12, 13, 14, 15, 16, 17, 18, 19, 20] rfl (ih ad _ _ _ _ _ _ _ _ _ _ _ _ _))
    · refine k_iconst (0) (by decide) dL_law_1510 ?_
      refine k_isub dL_law_1511 ?_
      refine k_istore [(23, .int _), (24, .int _), (22, .int _), (21, .int _), (20, .int _), (19, .int _), (17, .int _), (14, .int _), (12, .int _), (11, .int _), (10, .int _), (9, .int _), (0, .ref _), (1, .ref _), (2, .ref _), (3, .ref _), (4, .ref _), (5, .ref _), (6, .ref _), (7, .ref _), (8, .ref _)] rfl (by decide) dL_law_1512 ?_
      refine k_iinc (1) [(24, .int _), (23, .int _), (22, .int _), (21, .int _), (20, .int _), (19, .int _), (17, .int _), (14, .int _), (12, .int _), (11, .int _), (10, .int _), (9, .int _), (0, .ref _), (1, .ref _), (2, .ref _), (3, .ref _), (4, .ref _), (5, .ref _), (6, .ref _), (7, .ref _), (8, .ref _)] 1 rfl (by decide) rfl (by decide) dL_law_1514 ?_
      refine k_goto 1462 dL_law_1517 (by decide) ?_
      exact k_less (by omega) (k_sub [0, 1, 2, 3, 4, 5, 6, 7, 8, 9, 10, 11, 12, 13, 14, 15, 16, 17, 18, 19, 20] rfl (ih ad _ _ _ _ _ _ _ _ _ _ _ _ _))
theorem bl_L_law_1433 (X : Xt) (hst : X.1.stackTraces = false) (b L : Nat) (xs : Nat → Int32) (N : Nat) {k600 : Wd → Int32 → Int32 → Int32 → Int32 → Int32 → Int32 → Option Unit} (hk600 : ∀ (ad : Ad) (σ : Wd) (a14 : Int32) (a13 : Int32) (a12 : Int32) (a11 : Int32) (a10 : Int32) (a9 : Int32), Lk X b L xs (N) ad σ 600 [(14, .int a14), (13, .int a13), (12, .int a12), (11, .int a11), (10, .int a10), (9, .int a9), (0, .ref b), (1, .ref (ad 0 0)), (2, .ref (ad 71 0)), (3, .ref (ad 72 0)), (4, .ref (ad 73 0)), (5, .ref (ad 74 0)), (6, .ref (ad 75 0)), (7, .ref (ad 76 0)), (8, .ref (ad 77 0))] [] (k600 σ a14 a13 a12 a11 a10 a9)) : ∀ (n : Nat) (ad : Ad) (σ : Wd) (a22 : Int32) (a21 : Int32) (a20 : Int32) (a19 : Int32) (a17 : Int32) (a14 : Int32) (a12 : Int32) (a11 : Int32) (a10 : Int32) (a9 : Int32), Lk X b L xs (N + 1) ad σ 1433 [(22, .int a22), (21, .int a21), (20, .int a20), (19, .int a19), (17, .int a17), (14, .int a14), (12, .int a12), (11, .int a11), (10, .int a10), (9, .int a9), (0, .ref b), (1, .ref (ad 0 0)), (2, .ref (ad 71 0)), (3, .ref (ad 72 0)), (4, .ref (ad 73 0)), (5, .ref (ad 74 0)), (6, .ref (ad 75 0)), (7, .ref (ad 76 0)), (8, .ref (ad 77 0))] [] (l_L_law_1433 L xs k600 n σ a22 a21 a20 a19 a17 a14 a12 a11 a10 a9) := by
  intro n
  induction n with
  | zero => intros; exact k_none
  | succ n ih =>
  intro ad σ a22 a21 a20 a19 a17 a14 a12 a11 a10 a9
  rw [l_L_law_1433]
  refine k_iload 0 rfl dL_law_1433 ?_
  refine k_iconst (4) (by decide) dL_law_1435 ?_
  refine k_icmp_ge 1542 dL_law_1436 (by decide) ?_ ?_
  · exact k_less (by omega) (k_sub [1, 2, 3, 4, 5, 6, 7, 8, 9, 10, 11, 12, 13, 14, 15, 16, 17, 18] rfl (bj_L_law_1542 X hst b L xs N hk600 ad _ _ _ _ _ _ _ _ _ _))
  · refine k_iload 2 rfl dL_law_1439 ?_
    refine k_if_eq 1542 dL_law_1441 (by decide) ?_ ?_
    · exact k_less (by omega) (k_sub [1, 2, 3, 4, 5, 6, 7, 8, 9, 10, 11, 12, 13, 14, 15, 16, 17, 18] rfl (bj_L_law_1542 X hst b L xs N hk600 ad _ _ _ _ _ _ _ _ _ _))
    · refine k_aload_n 12 rfl dL_law_1444 ?_
      refine k_iload 3 rfl dL_law_1445 ?_
      refine k_iconst (2) (by decide) dL_law_1447 ?_
      refine k_iadd dL_law_1448 ?_
      refine k_iload 0 rfl dL_law_1449 ?_
      refine k_iadd dL_law_1451 ?_
      refine k_gd (fun h17 => ?_)
      refine k_iaload (lvs_71 _) (cell_71 _ _ _ _) h17 dL_law_1452 ?_
      refine k_bd ?_
      refine k_istore [(23, .int _), (22, .int _), (21, .int _), (20, .int _), (19, .int _), (17, .int _), (14, .int _), (12, .int _), (11, .int _), (10, .int _), (9, .int _), (0, .ref _), (1, .ref _), (2, .ref _), (3, .ref _), (4, .ref _), (5, .ref _), (6, .ref _), (7, .ref _), (8, .ref _)] rfl (by decide) dL_law_1453 ?_
      refine k_bipush (8) (by decide) dL_law_1455 ?_
      refine k_iload 5 rfl dL_law_1457 ?_
      refine k_imul dL_law_1459 ?_
      refine k_istore [(24, .int _), (23, .int _), (22, .int _), (21, .int _), (20, .int _), (19, .int _), (17, .int _), (14, .int _), (12, .int _), (11, .int _), (10, .int _), (9, .int _), (0, .ref _), (1, .ref _), (2, .ref _), (3, .ref _), (4, .ref _), (5, .ref _), (6, .ref _), (7, .ref _), (8, .ref _)] rfl (by decide) dL_law_1460 ?_
      exact k_less (by omega) (k_sub [0, 1, 2, 3, 4, 5, 6, 7, 8, 9, 10, 11, 12, 13, 14, 15, 16, 17, 18, 19, 20] rfl (bl_L_law_1462 X hst b L xs N ih FU ad _ _ _ _ _ _ _ _ _ _ _ _ _))
theorem bj_L_law_1424 (X : Xt) (hst : X.1.stackTraces = false) (b L : Nat) (xs : Nat → Int32) (N : Nat) {k600 : Wd → Int32 → Int32 → Int32 → Int32 → Int32 → Int32 → Option Unit} (hk600 : ∀ (ad : Ad) (σ : Wd) (a14 : Int32) (a13 : Int32) (a12 : Int32) (a11 : Int32) (a10 : Int32) (a9 : Int32), Lk X b L xs (N) ad σ 600 [(14, .int a14), (13, .int a13), (12, .int a12), (11, .int a11), (10, .int a10), (9, .int a9), (0, .ref b), (1, .ref (ad 0 0)), (2, .ref (ad 71 0)), (3, .ref (ad 72 0)), (4, .ref (ad 73 0)), (5, .ref (ad 74 0)), (6, .ref (ad 75 0)), (7, .ref (ad 76 0)), (8, .ref (ad 77 0))] [] (k600 σ a14 a13 a12 a11 a10 a9)) (ad : Ad) (σ : Wd) (a19 : Int32) (a17 : Int32) (a14 : Int32) (a12 : Int32) (a11 : Int32) (a10 : Int32) (a9 : Int32) (s0 : Int32) : Lk X b L xs (N + 1) ad σ 1424 [(19, .int a19), (17, .int a17), (14, .int a14), (12, .int a12), (11, .int a11), (10, .int a10), (9, .int a9), (0, .ref b), (1, .ref (ad 0 0)), (2, .ref (ad 71 0)), (3, .ref (ad 72 0)), (4, .ref (ad 73 0)), (5, .ref (ad 74 0)), (6, .ref (ad 75 0)), (7, .ref (ad 76 0)), (8, .ref (ad 77 0))] [.int s0] (j_L_law_1424 L xs k600 σ a19 a17 a14 a12 a11 a10 a9 s0) := by
  unfold j_L_law_1424
  refine k_istore [(20, .int _), (19, .int _), (17, .int _), (14, .int _), (12, .int _), (11, .int _), (10, .int _), (9, .int _), (0, .ref _), (1, .ref _), (2, .ref _), (3, .ref _), (4, .ref _), (5, .ref _), (6, .ref _), (7, .ref _), (8, .ref _)] rfl (by decide) dL_law_1424 ?_
  refine k_ldc (100000) w_600 dL_law_1426 ?_
  refine k_istore [(21, .int _), (20, .int _), (19, .int _), (17, .int _), (14, .int _), (12, .int _), (11, .int _), (10, .int _), (9, .int _), (0, .ref _), (1, .ref _), (2, .ref _), (3, .ref _), (4, .ref _), (5, .ref _), (6, .ref _), (7, .ref _), (8, .ref _)] rfl (by decide) dL_law_1428 ?_
  refine k_iconst (0) (by decide) dL_law_1430 ?_
  refine k_istore [(22, .int _), (21, .int _), (20, .int _), (19, .int _), (17, .int _), (14, .int _), (12, .int _), (11, .int _), (10, .int _), (9, .int _), (0, .ref _), (1, .ref _), (2, .ref _), (3, .ref _), (4, .ref _), (5, .ref _), (6, .ref _), (7, .ref _), (8, .ref _)] rfl (by decide) dL_law_1431 ?_
  exact k_less (by omega) (k_sub [0, 1, 2, 3, 4, 5, 6, 7, 8, 9, 10, 11, 12, 13, 14, 15, 16, 17, 18] rfl (bl_L_law_1433 X hst b L xs N hk600 FU ad _ _ _ _ _ _ _ _ _ _ _))
theorem bj_L_law_1423 (X : Xt) (hst : X.1.stackTraces = false) (b L : Nat) (xs : Nat → Int32) (N : Nat) {k600 : Wd → Int32 → Int32 → Int32 → Int32 → Int32 → Int32 → Option Unit} (hk600 : ∀ (ad : Ad) (σ : Wd) (a14 : Int32) (a13 : Int32) (a12 : Int32) (a11 : Int32) (a10 : Int32) (a9 : Int32), Lk X b L xs (N) ad σ 600 [(14, .int a14), (13, .int a13), (12, .int a12), (11, .int a11), (10, .int a10), (9, .int a9), (0, .ref b), (1, .ref (ad 0 0)), (2, .ref (ad 71 0)), (3, .ref (ad 72 0)), (4, .ref (ad 73 0)), (5, .ref (ad 74 0)), (6, .ref (ad 75 0)), (7, .ref (ad 76 0)), (8, .ref (ad 77 0))] [] (k600 σ a14 a13 a12 a11 a10 a9)) (ad : Ad) (σ : Wd) (a19 : Int32) (a17 : Int32) (a14 : Int32) (a12 : Int32) (a11 : Int32) (a10 : Int32) (a9 : Int32) : Lk X b L xs (N + 1) ad σ 1423 [(19, .int a19), (17, .int a17), (14, .int a14), (12, .int a12), (11, .int a11), (10, .int a10), (9, .int a9), (0, .ref b), (1, .ref (ad 0 0)), (2, .ref (ad 71 0)), (3, .ref (ad 72 0)), (4, .ref (ad 73 0)), (5, .ref (ad 74 0)), (6, .ref (ad 75 0)), (7, .ref (ad 76 0)), (8, .ref (ad 77 0))] [] (j_L_law_1423 L xs k600 σ a19 a17 a14 a12 a11 a10 a9) := by
  unfold j_L_law_1423
  refine k_iconst (0) (by decide) dL_law_1423 ?_
  exact k_less (by omega) (k_sub [0, 1, 2, 3, 4, 5, 6, 7, 8, 9, 10, 11, 12, 13, 14, 15] rfl (bj_L_law_1424 X hst b L xs N hk600 ad _ _ _ _ _ _ _ _ _))
theorem bj_L_law_1779 (X : Xt) (hst : X.1.stackTraces = false) (b L : Nat) (xs : Nat → Int32) (N : Nat) {k600 : Wd → Int32 → Int32 → Int32 → Int32 → Int32 → Int32 → Option Unit} (hk600 : ∀ (ad : Ad) (σ : Wd) (a14 : Int32) (a13 : Int32) (a12 : Int32) (a11 : Int32) (a10 : Int32) (a9 : Int32), Lk X b L xs (N) ad σ 600 [(14, .int a14), (13, .int a13), (12, .int a12), (11, .int a11), (10, .int a10), (9, .int a9), (0, .ref b), (1, .ref (ad 0 0)), (2, .ref (ad 71 0)), (3, .ref (ad 72 0)), (4, .ref (ad 73 0)), (5, .ref (ad 74 0)), (6, .ref (ad 75 0)), (7, .ref (ad 76 0)), (8, .ref (ad 77 0))] [] (k600 σ a14 a13 a12 a11 a10 a9)) (ad : Ad) (σ : Wd) (a13 : Int32) (a14 : Int32) (a12 : Int32) (a11 : Int32) (a10 : Int32) (a9 : Int32) : Lk X b L xs (N) ad σ 1779 [(13, .int a13), (14, .int a14), (12, .int a12), (11, .int a11), (10, .int a10), (9, .int a9), (0, .ref b), (1, .ref (ad 0 0)), (2, .ref (ad 71 0)), (3, .ref (ad 72 0)), (4, .ref (ad 73 0)), (5, .ref (ad 74 0)), (6, .ref (ad 75 0)), (7, .ref (ad 76 0)), (8, .ref (ad 77 0))] [] (j_L_law_1779 L xs k600 σ a13 a14 a12 a11 a10 a9) := by
  unfold j_L_law_1779
  refine k_goto 1937 dL_law_1779 (by decide) ?_
  exact k_less (by omega) (k_sub [0, 1, 2, 3, 4, 5, 6, 7, 8, 9, 10, 11, 12, 13, 14] rfl (bj_L_law_1937 X hst b L xs N hk600 ad _ _ _ _ _ _ _))
theorem bj_L_law_1761 (X : Xt) (hst : X.1.stackTraces = false) (b L : Nat) (xs : Nat → Int32) (N : Nat) {k600 : Wd → Int32 → Int32 → Int32 → Int32 → Int32 → Int32 → Option Unit} (hk600 : ∀ (ad : Ad) (σ : Wd) (a14 : Int32) (a13 : Int32) (a12 : Int32) (a11 : Int32) (a10 : Int32) (a9 : Int32), Lk X b L xs (N) ad σ 600 [(14, .int a14), (13, .int a13), (12, .int a12), (11, .int a11), (10, .int a10), (9, .int a9), (0, .ref b), (1, .ref (ad 0 0)), (2, .ref (ad 71 0)), (3, .ref (ad 72 0)), (4, .ref (ad 73 0)), (5, .ref (ad 74 0)), (6, .ref (ad 75 0)), (7, .ref (ad 76 0)), (8, .ref (ad 77 0))] [] (k600 σ a14 a13 a12 a11 a10 a9)) (ad : Ad) (σ : Wd) (a21 : Int32) (a20 : Int32) (a17 : Int32) (a14 : Int32) (a12 : Int32) (a11 : Int32) (a10 : Int32) (a9 : Int32) (s0 : Int32) : Lk X b L xs (N) ad σ 1761 [(21, .int a21), (20, .int a20), (17, .int a17), (14, .int a14), (12, .int a12), (11, .int a11), (10, .int a10), (9, .int a9), (0, .ref b), (1, .ref (ad 0 0)), (2, .ref (ad 71 0)), (3, .ref (ad 72 0)), (4, .ref (ad 73 0)), (5, .ref (ad 74 0)), (6, .ref (ad 75 0)), (7, .ref (ad 76 0)), (8, .ref (ad 77 0))] [.int s0] (j_L_law_1761 L xs k600 σ a21 a20 a17 a14 a12 a11 a10 a9 s0) := by
  unfold j_L_law_1761
  refine k_istore [(13, .int _), (21, .int _), (20, .int _), (17, .int _), (14, .int _), (12, .int _), (11, .int _), (10, .int _), (9, .int _), (0, .ref _), (1, .ref _), (2, .ref _), (3, .ref _), (4, .ref _), (5, .ref _), (6, .ref _), (7, .ref _), (8, .ref _)] rfl (by decide) dL_law_1761 ?_
  refine k_iload 1 rfl dL_law_1763 ?_
  refine k_if_lt 1779 dL_law_1765 (by decide) ?_ ?_
  · exact k_less (by omega) (k_sub [0, 4, 5, 6, 7, 8, 9, 10, 11, 12, 13, 14, 15, 16, 17] rfl (bj_L_law_1779 X hst b L xs N hk600 ad _ _ _ _ _ _ _))
  · refine k_aload_n 11 rfl dL_law_1768 ?_
    refine k_aload_n 12 rfl dL_law_1769 ?_
    refine k_aload 13 rfl dL_law_1770 ?_
    refine k_iload 3 rfl dL_law_1772 ?_
    refine k_iload 2 rfl dL_law_1774 ?_
    refine k_callS (n := 5) (As := [.ref _, .ref _, .ref _, .int _, .int _]) (nc_L_remove X hst ad _ _ _) ⟨by decide, by decide, by decide +kernel⟩ w_603 w_604 w_502 w_605 rfl rfl (Nat.le_of_ble_eq_true rfl) ⟨by decide, by decide⟩ dL_law_1776 (fun v54 σ55 => ?_)
    exact k_less (by omega) (k_sub [0, 4, 5, 6, 7, 8, 9, 10, 11, 12, 13, 14, 15, 16, 17] rfl (bj_L_law_1779 X hst b L xs N hk600 ad _ _ _ _ _ _ _))
theorem bj_L_law_1740 (X : Xt) (hst : X.1.stackTraces = false) (b L : Nat) (xs : Nat → Int32) (N : Nat) {k600 : Wd → Int32 → Int32 → Int32 → Int32 → Int32 → Int32 → Option Unit} (hk600 : ∀ (ad : Ad) (σ : Wd) (a14 : Int32) (a13 : Int32) (a12 : Int32) (a11 : Int32) (a10 : Int32) (a9 : Int32), Lk X b L xs (N) ad σ 600 [(14, .int a14), (13, .int a13), (12, .int a12), (11, .int a11), (10, .int a10), (9, .int a9), (0, .ref b), (1, .ref (ad 0 0)), (2, .ref (ad 71 0)), (3, .ref (ad 72 0)), (4, .ref (ad 73 0)), (5, .ref (ad 74 0)), (6, .ref (ad 75 0)), (7, .ref (ad 76 0)), (8, .ref (ad 77 0))] [] (k600 σ a14 a13 a12 a11 a10 a9)) (ad : Ad) (σ : Wd) (a20 : Int32) (a17 : Int32) (a14 : Int32) (a12 : Int32) (a11 : Int32) (a10 : Int32) (a9 : Int32) (s0 : Int32) : Lk X b L xs (N + 1) ad σ 1740 [(20, .int a20), (17, .int a17), (14, .int a14), (12, .int a12), (11, .int a11), (10, .int a10), (9, .int a9), (0, .ref b), (1, .ref (ad 0 0)), (2, .ref (ad 71 0)), (3, .ref (ad 72 0)), (4, .ref (ad 73 0)), (5, .ref (ad 74 0)), (6, .ref (ad 75 0)), (7, .ref (ad 76 0)), (8, .ref (ad 77 0))] [.int s0] (j_L_law_1740 L xs k600 σ a20 a17 a14 a12 a11 a10 a9 s0) := by
  unfold j_L_law_1740
  refine k_istore [(21, .int _), (20, .int _), (17, .int _), (14, .int _), (12, .int _), (11, .int _), (10, .int _), (9, .int _), (0, .ref _), (1, .ref _), (2, .ref _), (3, .ref _), (4, .ref _), (5, .ref _), (6, .ref _), (7, .ref _), (8, .ref _)] rfl (by decide) dL_law_1740 ?_
  refine k_aload_n 9 rfl dL_law_1742 ?_
  refine k_iconst (2) (by decide) dL_law_1743 ?_
  refine k_iload 2 rfl dL_law_1744 ?_
  refine k_iload 1 rfl dL_law_1746 ?_
  refine k_callW (n := 4) (As := [.ref _, .int _, .int _, .int _]) (fun kv τ hg => wn_shop X hst ad _ _ _ _ kv τ hg) ⟨by decide, by decide, by decide +kernel⟩ w_601 w_602 w_502 w_557 rfl rfl (Nat.le_of_ble_eq_true rfl) ⟨by decide, by decide⟩ ⟨by decide, by decide⟩ dL_law_1748 (fun v52 σ53 a1 hFa1 => ?_)
  rw [← hFa1 0 0 (by decide), ← hFa1 71 0 (by decide), ← hFa1 72 0 (by decide), ← hFa1 73 0 (by decide), ← hFa1 74 0 (by decide), ← hFa1 75 0 (by decide), ← hFa1 76 0 (by decide), ← hFa1 77 0 (by decide)]
  refine k_iload 0 rfl dL_law_1751 ?_
  refine k_icmp_ne 1760 dL_law_1753 (by decide) ?_ ?_
  · refine k_iconst (1) (by decide) dL_law_1756 ?_
    refine k_goto 1761 dL_law_1757 (by decide) ?_
    exact k_less (by omega) (k_sub [0, 1, 2, 3, 4, 5, 6, 7, 8, 9, 10, 11, 12, 13, 14, 15, 16] rfl (bj_L_law_1761 X hst b L xs N hk600 a1 _ _ _ _ _ _ _ _ _ _))
  · refine k_iconst (0) (by decide) dL_law_1760 ?_
    exact k_less (by omega) (k_sub [0, 1, 2, 3, 4, 5, 6, 7, 8, 9, 10, 11, 12, 13, 14, 15, 16] rfl (bj_L_law_1761 X hst b L xs N hk600 a1 _ _ _ _ _ _ _ _ _ _))
theorem bl_L_law_1888 (X : Xt) (hst : X.1.stackTraces = false) (b L : Nat) (xs : Nat → Int32) (N : Nat) {k600 : Wd → Int32 → Int32 → Int32 → Int32 → Int32 → Int32 → Option Unit} (hk600 : ∀ (ad : Ad) (σ : Wd) (a14 : Int32) (a13 : Int32) (a12 : Int32) (a11 : Int32) (a10 : Int32) (a9 : Int32), Lk X b L xs (N) ad σ 600 [(14, .int a14), (13, .int a13), (12, .int a12), (11, .int a11), (10, .int a10), (9, .int a9), (0, .ref b), (1, .ref (ad 0 0)), (2, .ref (ad 71 0)), (3, .ref (ad 72 0)), (4, .ref (ad 73 0)), (5, .ref (ad 74 0)), (6, .ref (ad 75 0)), (7, .ref (ad 76 0)), (8, .ref (ad 77 0))] [] (k600 σ a14 a13 a12 a11 a10 a9)) : ∀ (n : Nat) (ad : Ad) (σ : Wd) (a21 : Int32) (a13 : Int32) (a10 : Int32) (a14 : Int32) (a9 : Int32), Lk X b L xs (N + 1) ad σ 1888 [(21, .int a21), (13, .int a13), (10, .int a10), (14, .int a14), (9, .int a9), (0, .ref b), (1, .ref (ad 0 0)), (2, .ref (ad 71 0)), (3, .ref (ad 72 0)), (4, .ref (ad 73 0)), (5, .ref (ad 74 0)), (6, .ref (ad 75 0)), (7, .ref (ad 76 0)), (8, .ref (ad 77 0))] [] (l_L_law_1888 L xs k600 n σ a21 a13 a10 a14 a9) := by
  intro n
  induction n with
  | zero => intros; exact k_none
  | succ n ih =>
  intro ad σ a21 a13 a10 a14 a9
  rw [l_L_law_1888]
  refine k_iload 0 rfl dL_law_1888 ?_
  refine k_iconst (3) (by decide) dL_law_1890 ?_
  refine k_icmp_ge 1928 dL_law_1891 (by decide) ?_ ?_
  · refine k_iinc (1) [(9, .int _), (21, .int _), (13, .int _), (10, .int _), (14, .int _), (0, .ref _), (1, .ref _), (2, .ref _), (3, .ref _), (4, .ref _), (5, .ref _), (6, .ref _), (7, .ref _), (8, .ref _)] 4 rfl (by decide) rfl (by decide) dL_law_1928 ?_
    refine k_iconst (0) (by decide) dL_law_1931 ?_
    refine k_istore [(11, .int _), (9, .int _), (21, .int _), (13, .int _), (10, .int _), (14, .int _), (0, .ref _), (1, .ref _), (2, .ref _), (3, .ref _), (4, .ref _), (5, .ref _), (6, .ref _), (7, .ref _), (8, .ref _)] rfl (by decide) dL_law_1932 ?_
    refine k_iconst (0) (by decide) dL_law_1934 ?_
    refine k_istore [(12, .int _), (11, .int _), (9, .int _), (21, .int _), (13, .int _), (10, .int _), (14, .int _), (0, .ref _), (1, .ref _), (2, .ref _), (3, .ref _), (4, .ref _), (5, .ref _), (6, .ref _), (7, .ref _), (8, .ref _)] rfl (by decide) dL_law_1935 ?_
    exact k_less (by omega) (k_sub [4, 6, 0, 1, 5, 2, 7, 8, 9, 10, 11, 12, 13, 14, 15] rfl (bj_L_law_1937 X hst b L xs N hk600 ad _ _ _ _ _ _ _))
  · refine k_iload 1 rfl dL_law_1894 ?_
    refine k_if_eq 1919 dL_law_1896 (by decide) ?_ ?_
    · refine k_iconst (0) (by decide) dL_law_1919 ?_
      refine k_istore [(13, .int _), (21, .int _), (10, .int _), (14, .int _), (9, .int _), (0, .ref _), (1, .ref _), (2, .ref _), (3, .ref _), (4, .ref _), (5, .ref _), (6, .ref _), (7, .ref _), (8, .ref _)] rfl (by decide) dL_law_1920 ?_
      refine k_iinc (1) [(21, .int _), (13, .int _), (10, .int _), (14, .int _), (9, .int _), (0, .ref _), (1, .ref _), (2, .ref _), (3, .ref _), (4, .ref _), (5, .ref _), (6, .ref _), (7, .ref _), (8, .ref _)] 1 rfl (by decide) rfl (by decide) dL_law_1922 ?_
      refine k_goto 1888 dL_law_1925 (by decide) ?_
      exact k_less (by omega) (k_sub [0, 1, 2, 3, 4, 5, 6, 7, 8, 9, 10, 11, 12, 13] rfl (ih ad _ _ _ _ _ _))
    · refine k_aload_n 6 rfl dL_law_1899 ?_
      refine k_iload 0 rfl dL_law_1900 ?_
      refine k_iload 4 rfl dL_law_1902 ?_
      refine k_callV (n := 2) (As := [.int _, .int _]) (nc_X9_ran X hst ad _ _ _) ⟨rfl, by decide, by decide, by decide +kernel⟩ w_617 w_618 w_619 w_203 w_620 rfl rfl (Nat.le_of_ble_eq_true rfl) ⟨by decide, by decide⟩ dL_law_1904 (fun v64 σ65 => ?_)
      refine k_aload 13 rfl dL_law_1907 ?_
      refine k_iload 0 rfl dL_law_1909 ?_
      refine k_gd (fun h23 => ?_)
      refine k_iaload (lvs_77 _) (cell_77 _ _ _ _) h23 dL_law_1911 ?_
      refine k_icmp_ne 1919 dL_law_1912 (by decide) ?_ ?_
      · refine k_iconst (1) (by decide) dL_law_1915 ?_
        refine k_goto 1920 dL_law_1916 (by decide) ?_
        refine k_istore [(13, .int _), (21, .int _), (10, .int _), (14, .int _), (9, .int _), (0, .ref _), (1, .ref _), (2, .ref _), (3, .ref _), (4, .ref _), (5, .ref _), (6, .ref _), (7, .ref _), (8, .ref _)] rfl (by decide) dL_law_1920 ?_
        refine k_iinc (1) [(21, .int _), (13, .int _), (10, .int _), (14, .int _), (9, .int _), (0, .ref _), (1, .ref _), (2, .ref _), (3, .ref _), (4, .ref _), (5, .ref _), (6, .ref _), (7, .ref _), (8, .ref _)] 1 rfl (by decide) rfl (by decide) dL_law_1922 ?_
        refine k_goto 1888 dL_law_1925 (by decide) ?_
        exact k_less (by omega) (k_sub [0, 1, 2, 3, 4, 5, 6, 7, 8, 9, 10, 11, 12, 13] rfl (ih ad _ _ _ _ _ _))
      · refine k_iconst (0) (by decide) dL_law_1919 ?_
        refine k_istore [(13, .int _), (21, .int _), (10, .int _), (14, .int _), (9, .int _), (0, .ref _), (1, .ref _), (2, .ref _), (3, .ref _), (4, .ref _), (5, .ref _), (6, .ref _), (7, .ref _), (8, .ref _)] rfl (by decide) dL_law_1920 ?_
        refine k_iinc (1) [(21, .int _), (13, .int _), (10, .int _), (14, .int _), (9, .int _), (0, .ref _), (1, .ref _), (2, .ref _), (3, .ref _), (4, .ref _), (5, .ref _), (6, .ref _), (7, .ref _), (8, .ref _)] 1 rfl (by decide) rfl (by decide) dL_law_1922 ?_
        refine k_goto 1888 dL_law_1925 (by decide) ?_
        exact k_less (by omega) (k_sub [0, 1, 2, 3, 4, 5, 6, 7, 8, 9, 10, 11, 12, 13] rfl (ih ad _ _ _ _ _ _))
theorem bj_L_law_1883 (X : Xt) (hst : X.1.stackTraces = false) (b L : Nat) (xs : Nat → Int32) (N : Nat) {k600 : Wd → Int32 → Int32 → Int32 → Int32 → Int32 → Int32 → Option Unit} (hk600 : ∀ (ad : Ad) (σ : Wd) (a14 : Int32) (a13 : Int32) (a12 : Int32) (a11 : Int32) (a10 : Int32) (a9 : Int32), Lk X b L xs (N) ad σ 600 [(14, .int a14), (13, .int a13), (12, .int a12), (11, .int a11), (10, .int a10), (9, .int a9), (0, .ref b), (1, .ref (ad 0 0)), (2, .ref (ad 71 0)), (3, .ref (ad 72 0)), (4, .ref (ad 73 0)), (5, .ref (ad 74 0)), (6, .ref (ad 75 0)), (7, .ref (ad 76 0)), (8, .ref (ad 77 0))] [] (k600 σ a14 a13 a12 a11 a10 a9)) (ad : Ad) (σ : Wd) (a10 : Int32) (a14 : Int32) (a9 : Int32) (s0 : Int32) : Lk X b L xs (N + 1) ad σ 1883 [(10, .int a10), (14, .int a14), (9, .int a9), (0, .ref b), (1, .ref (ad 0 0)), (2, .ref (ad 71 0)), (3, .ref (ad 72 0)), (4, .ref (ad 73 0)), (5, .ref (ad 74 0)), (6, .ref (ad 75 0)), (7, .ref (ad 76 0)), (8, .ref (ad 77 0))] [.int s0] (j_L_law_1883 L xs k600 σ a10 a14 a9 s0) := by
  unfold j_L_law_1883
  refine k_istore [(13, .int _), (10, .int _), (14, .int _), (9, .int _), (0, .ref _), (1, .ref _), (2, .ref _), (3, .ref _), (4, .ref _), (5, .ref _), (6, .ref _), (7, .ref _), (8, .ref _)] rfl (by decide) dL_law_1883 ?_
  refine k_iconst (0) (by decide) dL_law_1885 ?_
  refine k_istore [(21, .int _), (13, .int _), (10, .int _), (14, .int _), (9, .int _), (0, .ref _), (1, .ref _), (2, .ref _), (3, .ref _), (4, .ref _), (5, .ref _), (6, .ref _), (7, .ref _), (8, .ref _)] rfl (by decide) dL_law_1886 ?_
  exact k_less (by omega) (k_sub [0, 1, 2, 3, 4, 5, 6, 7, 8, 9, 10, 11, 12, 13] rfl (bl_L_law_1888 X hst b L xs N hk600 FU ad _ _ _ _ _ _))
theorem bj_L_law_1882 (X : Xt) (hst : X.1.stackTraces = false) (b L : Nat) (xs : Nat → Int32) (N : Nat) {k600 : Wd → Int32 → Int32 → Int32 → Int32 → Int32 → Int32 → Option Unit} (hk600 : ∀ (ad : Ad) (σ : Wd) (a14 : Int32) (a13 : Int32) (a12 : Int32) (a11 : Int32) (a10 : Int32) (a9 : Int32), Lk X b L xs (N) ad σ 600 [(14, .int a14), (13, .int a13), (12, .int a12), (11, .int a11), (10, .int a10), (9, .int a9), (0, .ref b), (1, .ref (ad 0 0)), (2, .ref (ad 71 0)), (3, .ref (ad 72 0)), (4, .ref (ad 73 0)), (5, .ref (ad 74 0)), (6, .ref (ad 75 0)), (7, .ref (ad 76 0)), (8, .ref (ad 77 0))] [] (k600 σ a14 a13 a12 a11 a10 a9)) (ad : Ad) (σ : Wd) (a10 : Int32) (a14 : Int32) (a9 : Int32) : Lk X b L xs (N + 1) ad σ 1882 [(10, .int a10), (14, .int a14), (9, .int a9), (0, .ref b), (1, .ref (ad 0 0)), (2, .ref (ad 71 0)), (3, .ref (ad 72 0)), (4, .ref (ad 73 0)), (5, .ref (ad 74 0)), (6, .ref (ad 75 0)), (7, .ref (ad 76 0)), (8, .ref (ad 77 0))] [] (j_L_law_1882 L xs k600 σ a10 a14 a9) := by
  unfold j_L_law_1882
  refine k_iconst (0) (by decide) dL_law_1882 ?_
  exact k_less (by omega) (k_sub [0, 1, 2, 3, 4, 5, 6, 7, 8, 9, 10, 11] rfl (bj_L_law_1883 X hst b L xs N hk600 ad _ _ _ _ _))
theorem bl_L_law_1827 (X : Xt) (hst : X.1.stackTraces = false) (b L : Nat) (xs : Nat → Int32) (N : Nat) {k1817 : Wd → Int32 → Int32 → Int32 → Int32 → Int32 → Option Unit} (hk1817 : ∀ (ad : Ad) (σ : Wd) (a21 : Int32) (a10 : Int32) (a20 : Int32) (a14 : Int32) (a9 : Int32), Lk X b L xs (N + 1) ad σ 1817 [(21, .int a21), (10, .int a10), (20, .int a20), (14, .int a14), (9, .int a9), (0, .ref b), (1, .ref (ad 0 0)), (2, .ref (ad 71 0)), (3, .ref (ad 72 0)), (4, .ref (ad 73 0)), (5, .ref (ad 74 0)), (6, .ref (ad 75 0)), (7, .ref (ad 76 0)), (8, .ref (ad 77 0))] [] (k1817 σ a21 a10 a20 a14 a9)) : ∀ (n : Nat) (ad : Ad) (σ : Wd) (a22 : Int32) (a21 : Int32) (a10 : Int32) (a20 : Int32) (a14 : Int32) (a9 : Int32), Lk X b L xs (N + 1) ad σ 1827 [(22, .int a22), (21, .int a21), (10, .int a10), (20, .int a20), (14, .int a14), (9, .int a9), (0, .ref b), (1, .ref (ad 0 0)), (2, .ref (ad 71 0)), (3, .ref (ad 72 0)), (4, .ref (ad 73 0)), (5, .ref (ad 74 0)), (6, .ref (ad 75 0)), (7, .ref (ad 76 0)), (8, .ref (ad 77 0))] [] (l_L_law_1827 L xs k1817 n σ a22 a21 a10 a20 a14 a9) := by
  intro n
  induction n with
  | zero => intros; exact k_none
  | succ n ih =>
  intro ad σ a22 a21 a10 a20 a14 a9
  rw [l_L_law_1827]
  refine k_iload 0 rfl dL_law_1827 ?_
  refine k_bipush (12) (by decide) dL_law_1829 ?_
  refine k_icmp_ge 1854 dL_law_1831 (by decide) ?_ ?_
  · refine k_iinc (1) [(21, .int _), (22, .int _), (10, .int _), (20, .int _), (14, .int _), (9, .int _), (0, .ref _), (1, .ref _), (2, .ref _), (3, .ref _), (4, .ref _), (5, .ref _), (6, .ref _), (7, .ref _), (8, .ref _)] 1 rfl (by decide) rfl (by decide) dL_law_1854 ?_
    refine k_goto 1817 dL_law_1857 (by decide) ?_
    exact k_less (by omega) (k_sub [0, 2, 3, 4, 5, 6, 7, 8, 9, 10, 11, 12, 13, 14] rfl (hk1817 ad _ _ _ _ _ _))
  · refine k_aload_n 8 rfl dL_law_1834 ?_
    refine k_bipush (16) (by decide) dL_law_1835 ?_
    refine k_iload 1 rfl dL_law_1837 ?_
    refine k_imul dL_law_1839 ?_
    refine k_iload 0 rfl dL_law_1840 ?_
    refine k_iadd dL_law_1842 ?_
    refine k_dup2 rfl rfl dL_law_1843 ?_
    refine k_gd (fun h24 => ?_)
    refine k_iaload (lvs_71 _) (cell_71 _ _ _ _) h24 dL_law_1844 ?_
    refine k_iconst (1) (by decide) dL_law_1845 ?_
    refine k_iadd dL_law_1846 ?_
    refine k_bd ?_
    refine k_iastore (lvs_71 _) (ia_71 _ _ _) h24 dL_law_1847 ?_
    refine k_iinc (1) [(22, .int _), (21, .int _), (10, .int _), (20, .int _), (14, .int _), (9, .int _), (0, .ref _), (1, .ref _), (2, .ref _), (3, .ref _), (4, .ref _), (5, .ref _), (6, .ref _), (7, .ref _), (8, .ref _)] 0 rfl (by decide) rfl (by decide) dL_law_1848 ?_
    refine k_goto 1827 dL_law_1851 (by decide) ?_
    exact k_less (by omega) (k_sub [0, 1, 2, 3, 4, 5, 6, 7, 8, 9, 10, 11, 12, 13, 14] rfl (ih ad _ _ _ _ _ _ _))
theorem bl_L_law_1817 (X : Xt) (hst : X.1.stackTraces = false) (b L : Nat) (xs : Nat → Int32) (N : Nat) {k600 : Wd → Int32 → Int32 → Int32 → Int32 → Int32 → Int32 → Option Unit} (hk600 : ∀ (ad : Ad) (σ : Wd) (a14 : Int32) (a13 : Int32) (a12 : Int32) (a11 : Int32) (a10 : Int32) (a9 : Int32), Lk X b L xs (N) ad σ 600 [(14, .int a14), (13, .int a13), (12, .int a12), (11, .int a11), (10, .int a10), (9, .int a9), (0, .ref b), (1, .ref (ad 0 0)), (2, .ref (ad 71 0)), (3, .ref (ad 72 0)), (4, .ref (ad 73 0)), (5, .ref (ad 74 0)), (6, .ref (ad 75 0)), (7, .ref (ad 76 0)), (8, .ref (ad 77 0))] [] (k600 σ a14 a13 a12 a11 a10 a9)) : ∀ (n : Nat) (ad : Ad) (σ : Wd) (a21 : Int32) (a10 : Int32) (a20 : Int32) (a14 : Int32) (a9 : Int32), Lk X b L xs (N + 1) ad σ 1817 [(21, .int a21), (10, .int a10), (20, .int a20), (14, .int a14), (9, .int a9), (0, .ref b), (1, .ref (ad 0 0)), (2, .ref (ad 71 0)), (3, .ref (ad 72 0)), (4, .ref (ad 73 0)), (5, .ref (ad 74 0)), (6, .ref (ad 75 0)), (7, .ref (ad 76 0)), (8, .ref (ad 77 0))] [] (l_L_law_1817 L xs k600 n σ a21 a10 a20 a14 a9) := by
  intro n
  induction n with
  | zero => intros; exact k_none
  | succ n ih =>
  intro ad σ a21 a10 a20 a14 a9
  rw [l_L_law_1817]
  refine k_iload 0 rfl dL_law_1817 ?_
  refine k_iconst (4) (by decide) dL_law_1819 ?_
  refine k_icmp_ge 1860 dL_law_1820 (by decide) ?_ ?_
  · refine k_aload_n 6 rfl dL_law_1860 ?_
    refine k_callV (n := 0) (As := []) (nc_X9_day X hst ad _) ⟨rfl, by decide, by decide, by decide +kernel⟩ w_609 w_610 w_611 w_203 w_612 rfl rfl (Nat.le_of_ble_eq_true rfl) ⟨by decide, by decide⟩ dL_law_1861 (fun v60 σ61 => ?_)
    refine k_iload 2 rfl dL_law_1864 ?_
    refine k_icmp_ne 1882 dL_law_1866 (by decide) ?_ ?_
    · refine k_aload_n 6 rfl dL_law_1869 ?_
      refine k_callV (n := 0) (As := []) (nc_X9_shunts X hst ad _) ⟨rfl, by decide, by decide, by decide +kernel⟩ w_613 w_614 w_615 w_203 w_616 rfl rfl (Nat.le_of_ble_eq_true rfl) ⟨by decide, by decide⟩ dL_law_1870 (fun v62 σ63 => ?_)
      refine k_iload 1 rfl dL_law_1873 ?_
      refine k_icmp_ne 1882 dL_law_1875 (by decide) ?_ ?_
      · refine k_iconst (1) (by decide) dL_law_1878 ?_
        refine k_goto 1883 dL_law_1879 (by decide) ?_
        exact k_less (by omega) (k_sub [1, 3, 4, 5, 6, 7, 8, 9, 10, 11, 12, 13] rfl (bj_L_law_1883 X hst b L xs N hk600 ad _ _ _ _ _))
      · exact k_less (by omega) (k_sub [1, 3, 4, 5, 6, 7, 8, 9, 10, 11, 12, 13] rfl (bj_L_law_1882 X hst b L xs N hk600 ad _ _ _ _))
    · exact k_less (by omega) (k_sub [1, 3, 4, 5, 6, 7, 8, 9, 10, 11, 12, 13] rfl (bj_L_law_1882 X hst b L xs N hk600 ad _ _ _ _))
  · refine k_bipush (9) (by decide) dL_law_1823 ?_
    refine k_istore [(22, .int _), (21, .int _), (10, .int _), (20, .int _), (14, .int _), (9, .int _), (0, .ref _), (1, .ref _), (2, .ref _), (3, .ref _), (4, .ref _), (5, .ref _), (6, .ref _), (7, .ref _), (8, .ref _)] rfl (by decide) dL_law_1825 ?_
    exact k_less (by omega) (k_sub [0, 1, 2, 3, 4, 5, 6, 7, 8, 9, 10, 11, 12, 13, 14] rfl (bl_L_law_1827 X hst b L xs N ih FU ad _ _ _ _ _ _ _))
theorem bj_L_law_1397 (X : Xt) (hst : X.1.stackTraces = false) (b L : Nat) (xs : Nat → Int32) (N : Nat) {k600 : Wd → Int32 → Int32 → Int32 → Int32 → Int32 → Int32 → Option Unit} (hk600 : ∀ (ad : Ad) (σ : Wd) (a14 : Int32) (a13 : Int32) (a12 : Int32) (a11 : Int32) (a10 : Int32) (a9 : Int32), Lk X b L xs (N) ad σ 600 [(14, .int a14), (13, .int a13), (12, .int a12), (11, .int a11), (10, .int a10), (9, .int a9), (0, .ref b), (1, .ref (ad 0 0)), (2, .ref (ad 71 0)), (3, .ref (ad 72 0)), (4, .ref (ad 73 0)), (5, .ref (ad 74 0)), (6, .ref (ad 75 0)), (7, .ref (ad 76 0)), (8, .ref (ad 77 0))] [] (k600 σ a14 a13 a12 a11 a10 a9)) (ad : Ad) (σ : Wd) (a11 : Int32) (a13 : Int32) (a14 : Int32) (a12 : Int32) (a10 : Int32) (a9 : Int32) : Lk X b L xs (N) ad σ 1397 [(11, .int a11), (13, .int a13), (14, .int a14), (12, .int a12), (10, .int a10), (9, .int a9), (0, .ref b), (1, .ref (ad 0 0)), (2, .ref (ad 71 0)), (3, .ref (ad 72 0)), (4, .ref (ad 73 0)), (5, .ref (ad 74 0)), (6, .ref (ad 75 0)), (7, .ref (ad 76 0)), (8, .ref (ad 77 0))] [] (j_L_law_1397 L xs k600 σ a11 a13 a14 a12 a10 a9) := by
  unfold j_L_law_1397
  refine k_goto 1937 dL_law_1397 (by decide) ?_
  exact k_less (by omega) (k_sub [1, 2, 3, 0, 4, 5, 6, 7, 8, 9, 10, 11, 12, 13, 14] rfl (bj_L_law_1937 X hst b L xs N hk600 ad _ _ _ _ _ _ _))
theorem bl_L_law_1357 (X : Xt) (hst : X.1.stackTraces = false) (b L : Nat) (xs : Nat → Int32) (N : Nat) {k600 : Wd → Int32 → Int32 → Int32 → Int32 → Int32 → Int32 → Option Unit} (hk600 : ∀ (ad : Ad) (σ : Wd) (a14 : Int32) (a13 : Int32) (a12 : Int32) (a11 : Int32) (a10 : Int32) (a9 : Int32), Lk X b L xs (N) ad σ 600 [(14, .int a14), (13, .int a13), (12, .int a12), (11, .int a11), (10, .int a10), (9, .int a9), (0, .ref b), (1, .ref (ad 0 0)), (2, .ref (ad 71 0)), (3, .ref (ad 72 0)), (4, .ref (ad 73 0)), (5, .ref (ad 74 0)), (6, .ref (ad 75 0)), (7, .ref (ad 76 0)), (8, .ref (ad 77 0))] [] (k600 σ a14 a13 a12 a11 a10 a9)) : ∀ (n : Nat) (ad : Ad) (σ : Wd) (a22 : Int32) (a11 : Int32) (a13 : Int32) (a21 : Int32) (a20 : Int32) (a19 : Int32) (a14 : Int32) (a12 : Int32) (a10 : Int32) (a9 : Int32), Lk X b L xs (N) ad σ 1357 [(22, .int a22), (11, .int a11), (13, .int a13), (21, .int a21), (20, .int a20), (19, .int a19), (14, .int a14), (12, .int a12), (10, .int a10), (9, .int a9), (0, .ref b), (1, .ref (ad 0 0)), (2, .ref (ad 71 0)), (3, .ref (ad 72 0)), (4, .ref (ad 73 0)), (5, .ref (ad 74 0)), (6, .ref (ad 75 0)), (7, .ref (ad 76 0)), (8, .ref (ad 77 0))] [] (l_L_law_1357 L xs k600 n σ a22 a11 a13 a21 a20 a19 a14 a12 a10 a9) := by
  intro n
  induction n with
  | zero => intros; exact k_none
  | succ n ih =>
  intro ad σ a22 a11 a13 a21 a20 a19 a14 a12 a10 a9
  rw [l_L_law_1357]
  refine k_iload 0 rfl dL_law_1357 ?_
  refine k_iload 4 rfl dL_law_1359 ?_
  refine k_icmp_gt 1397 dL_law_1361 (by decide) ?_ ?_
  · exact k_less (by omega) (k_sub [1, 2, 6, 7, 8, 9, 10, 11, 12, 13, 14, 15, 16, 17, 18] rfl (bj_L_law_1397 X hst b L xs N hk600 ad _ _ _ _ _ _ _))
  · refine k_iload 3 rfl dL_law_1364 ?_
    refine k_if_eq 1397 dL_law_1366 (by decide) ?_ ?_
    · exact k_less (by omega) (k_sub [1, 2, 6, 7, 8, 9, 10, 11, 12, 13, 14, 15, 16, 17, 18] rfl (bj_L_law_1397 X hst b L xs N hk600 ad _ _ _ _ _ _ _))
    · refine k_aload_n 12 rfl dL_law_1369 ?_
      refine k_iload 5 rfl dL_law_1370 ?_
      refine k_bipush (6) (by decide) dL_law_1372 ?_
      refine k_iadd dL_law_1374 ?_
      refine k_iload 0 rfl dL_law_1375 ?_
      refine k_iadd dL_law_1377 ?_
      refine k_iconst (0) (by decide) dL_law_1378 ?_
      refine k_gd (fun h26 => ?_)
      refine k_bd ?_
      refine k_iastore (lvs_71 _) (ia_71 _ _ _) h26 dL_law_1379 ?_
      refine k_aload_n 12 rfl dL_law_1380 ?_
      refine k_iload 5 rfl dL_law_1381 ?_
      refine k_bipush (9) (by decide) dL_law_1383 ?_
      refine k_iadd dL_law_1385 ?_
      refine k_iload 0 rfl dL_law_1386 ?_
      refine k_iadd dL_law_1388 ?_
      refine k_iconst (0) (by decide) dL_law_1389 ?_
      refine k_gd (fun h27 => ?_)
      refine k_bd ?_
      refine k_iastore (lvs_71 _) (ia_71 _ _ _) h27 dL_law_1390 ?_
      refine k_iinc (1) [(22, .int _), (11, .int _), (13, .int _), (21, .int _), (20, .int _), (19, .int _), (14, .int _), (12, .int _), (10, .int _), (9, .int _), (0, .ref _), (1, .ref _), (2, .ref _), (3, .ref _), (4, .ref _), (5, .ref _), (6, .ref _), (7, .ref _), (8, .ref _)] 0 rfl (by decide) rfl (by decide) dL_law_1391 ?_
      refine k_goto 1357 dL_law_1394 (by decide) ?_
      exact k_less (by omega) (k_sub [0, 1, 2, 3, 4, 5, 6, 7, 8, 9, 10, 11, 12, 13, 14, 15, 16, 17, 18] rfl (ih ad _ _ _ _ _ _ _ _ _ _ _))
theorem bj_L_law_1352 (X : Xt) (hst : X.1.stackTraces = false) (b L : Nat) (xs : Nat → Int32) (N : Nat) {k600 : Wd → Int32 → Int32 → Int32 → Int32 → Int32 → Int32 → Option Unit} (hk600 : ∀ (ad : Ad) (σ : Wd) (a14 : Int32) (a13 : Int32) (a12 : Int32) (a11 : Int32) (a10 : Int32) (a9 : Int32), Lk X b L xs (N) ad σ 600 [(14, .int a14), (13, .int a13), (12, .int a12), (11, .int a11), (10, .int a10), (9, .int a9), (0, .ref b), (1, .ref (ad 0 0)), (2, .ref (ad 71 0)), (3, .ref (ad 72 0)), (4, .ref (ad 73 0)), (5, .ref (ad 74 0)), (6, .ref (ad 75 0)), (7, .ref (ad 76 0)), (8, .ref (ad 77 0))] [] (k600 σ a14 a13 a12 a11 a10 a9)) (ad : Ad) (σ : Wd) (a13 : Int32) (a21 : Int32) (a20 : Int32) (a19 : Int32) (a14 : Int32) (a12 : Int32) (a10 : Int32) (a9 : Int32) (s0 : Int32) : Lk X b L xs (N) ad σ 1352 [(13, .int a13), (21, .int a21), (20, .int a20), (19, .int a19), (14, .int a14), (12, .int a12), (10, .int a10), (9, .int a9), (0, .ref b), (1, .ref (ad 0 0)), (2, .ref (ad 71 0)), (3, .ref (ad 72 0)), (4, .ref (ad 73 0)), (5, .ref (ad 74 0)), (6, .ref (ad 75 0)), (7, .ref (ad 76 0)), (8, .ref (ad 77 0))] [.int s0] (j_L_law_1352 L xs k600 σ a13 a21 a20 a19 a14 a12 a10 a9 s0) := by
  unfold j_L_law_1352
  refine k_istore [(11, .int _), (13, .int _), (21, .int _), (20, .int _), (19, .int _), (14, .int _), (12, .int _), (10, .int _), (9, .int _), (0, .ref _), (1, .ref _), (2, .ref _), (3, .ref _), (4, .ref _), (5, .ref _), (6, .ref _), (7, .ref _), (8, .ref _)] rfl (by decide) dL_law_1352 ?_
  refine k_iconst (0) (by decide) dL_law_1354 ?_
  refine k_istore [(22, .int _), (11, .int _), (13, .int _), (21, .int _), (20, .int _), (19, .int _), (14, .int _), (12, .int _), (10, .int _), (9, .int _), (0, .ref _), (1, .ref _), (2, .ref _), (3, .ref _), (4, .ref _), (5, .ref _), (6, .ref _), (7, .ref _), (8, .ref _)] rfl (by decide) dL_law_1355 ?_
  exact k_less (by omega) (k_sub [0, 1, 2, 3, 4, 5, 6, 7, 8, 9, 10, 11, 12, 13, 14, 15, 16, 17, 18] rfl (bl_L_law_1357 X hst b L xs N hk600 FU ad _ _ _ _ _ _ _ _ _ _ _))
theorem bj_L_law_1347 (X : Xt) (hst : X.1.stackTraces = false) (b L : Nat) (xs : Nat → Int32) (N : Nat) {k600 : Wd → Int32 → Int32 → Int32 → Int32 → Int32 → Int32 → Option Unit} (hk600 : ∀ (ad : Ad) (σ : Wd) (a14 : Int32) (a13 : Int32) (a12 : Int32) (a11 : Int32) (a10 : Int32) (a9 : Int32), Lk X b L xs (N) ad σ 600 [(14, .int a14), (13, .int a13), (12, .int a12), (11, .int a11), (10, .int a10), (9, .int a9), (0, .ref b), (1, .ref (ad 0 0)), (2, .ref (ad 71 0)), (3, .ref (ad 72 0)), (4, .ref (ad 73 0)), (5, .ref (ad 74 0)), (6, .ref (ad 75 0)), (7, .ref (ad 76 0)), (8, .ref (ad 77 0))] [] (k600 σ a14 a13 a12 a11 a10 a9)) (ad : Ad) (σ : Wd) (a13 : Int32) (a21 : Int32) (a20 : Int32) (a19 : Int32) (a14 : Int32) (a12 : Int32) (a10 : Int32) (a9 : Int32) : Lk X b L xs (N) ad σ 1347 [(13, .int a13), (21, .int a21), (20, .int a20), (19, .int a19), (14, .int a14), (12, .int a12), (10, .int a10), (9, .int a9), (0, .ref b), (1, .ref (ad 0 0)), (2, .ref (ad 71 0)), (3, .ref (ad 72 0)), (4, .ref (ad 73 0)), (5, .ref (ad 74 0)), (6, .ref (ad 75 0)), (7, .ref (ad 76 0)), (8, .ref (ad 77 0))] [] (j_L_law_1347 L xs k600 σ a13 a21 a20 a19 a14 a12 a10 a9) := by
  unfold j_L_law_1347
  refine k_iconst (1) (by decide) dL_law_1347 ?_
  refine k_goto 1352 dL_law_1348 (by decide) ?_
  exact k_less (by omega) (k_sub [0, 1, 2, 3, 4, 5, 6, 7, 8, 9, 10, 11, 12, 13, 14, 15, 16] rfl (bj_L_law_1352 X hst b L xs N hk600 ad _ _ _ _ _ _ _ _ _ _))
theorem bj_L_law_1335 (X : Xt) (hst : X.1.stackTraces = false) (b L : Nat) (xs : Nat → Int32) (N : Nat) {k600 : Wd → Int32 → Int32 → Int32 → Int32 → Int32 → Int32 → Option Unit} (hk600 : ∀ (ad : Ad) (σ : Wd) (a14 : Int32) (a13 : Int32) (a12 : Int32) (a11 : Int32) (a10 : Int32) (a9 : Int32), Lk X b L xs (N) ad σ 600 [(14, .int a14), (13, .int a13), (12, .int a12), (11, .int a11), (10, .int a10), (9, .int a9), (0, .ref b), (1, .ref (ad 0 0)), (2, .ref (ad 71 0)), (3, .ref (ad 72 0)), (4, .ref (ad 73 0)), (5, .ref (ad 74 0)), (6, .ref (ad 75 0)), (7, .ref (ad 76 0)), (8, .ref (ad 77 0))] [] (k600 σ a14 a13 a12 a11 a10 a9)) (ad : Ad) (σ : Wd) (a21 : Int32) (a20 : Int32) (a19 : Int32) (a14 : Int32) (a12 : Int32) (a11 : Int32) (a10 : Int32) (a9 : Int32) (s0 : Int32) : Lk X b L xs (N) ad σ 1335 [(21, .int a21), (20, .int a20), (19, .int a19), (14, .int a14), (12, .int a12), (11, .int a11), (10, .int a10), (9, .int a9), (0, .ref b), (1, .ref (ad 0 0)), (2, .ref (ad 71 0)), (3, .ref (ad 72 0)), (4, .ref (ad 73 0)), (5, .ref (ad 74 0)), (6, .ref (ad 75 0)), (7, .ref (ad 76 0)), (8, .ref (ad 77 0))] [.int s0] (j_L_law_1335 L xs k600 σ a21 a20 a19 a14 a12 a11 a10 a9 s0) := by
  unfold j_L_law_1335
  refine k_istore [(13, .int _), (21, .int _), (20, .int _), (19, .int _), (14, .int _), (12, .int _), (11, .int _), (10, .int _), (9, .int _), (0, .ref _), (1, .ref _), (2, .ref _), (3, .ref _), (4, .ref _), (5, .ref _), (6, .ref _), (7, .ref _), (8, .ref _)] rfl (by decide) dL_law_1335 ?_
  refine k_iload 6 rfl dL_law_1337 ?_
  refine k_if_ne 1347 dL_law_1339 (by decide) ?_ ?_
  · refine k_iload 1 rfl dL_law_1342 ?_
    refine k_if_eq 1351 dL_law_1344 (by decide) ?_ ?_
    · refine k_iconst (0) (by decide) dL_law_1351 ?_
      exact k_less (by omega) (k_sub [0, 1, 2, 3, 4, 5, 7, 8, 9, 10, 11, 12, 13, 14, 15, 16, 17] rfl (bj_L_law_1352 X hst b L xs N hk600 ad _ _ _ _ _ _ _ _ _ _))
    · exact k_less (by omega) (k_sub [0, 1, 2, 3, 4, 5, 7, 8, 9, 10, 11, 12, 13, 14, 15, 16, 17] rfl (bj_L_law_1347 X hst b L xs N hk600 ad _ _ _ _ _ _ _ _ _))
  · exact k_less (by omega) (k_sub [0, 1, 2, 3, 4, 5, 7, 8, 9, 10, 11, 12, 13, 14, 15, 16, 17] rfl (bj_L_law_1347 X hst b L xs N hk600 ad _ _ _ _ _ _ _ _ _))
theorem bj_L_law_1327 (X : Xt) (hst : X.1.stackTraces = false) (b L : Nat) (xs : Nat → Int32) (N : Nat) {k600 : Wd → Int32 → Int32 → Int32 → Int32 → Int32 → Int32 → Option Unit} (hk600 : ∀ (ad : Ad) (σ : Wd) (a14 : Int32) (a13 : Int32) (a12 : Int32) (a11 : Int32) (a10 : Int32) (a9 : Int32), Lk X b L xs (N) ad σ 600 [(14, .int a14), (13, .int a13), (12, .int a12), (11, .int a11), (10, .int a10), (9, .int a9), (0, .ref b), (1, .ref (ad 0 0)), (2, .ref (ad 71 0)), (3, .ref (ad 72 0)), (4, .ref (ad 73 0)), (5, .ref (ad 74 0)), (6, .ref (ad 75 0)), (7, .ref (ad 76 0)), (8, .ref (ad 77 0))] [] (k600 σ a14 a13 a12 a11 a10 a9)) (ad : Ad) (σ : Wd) (a21 : Int32) (a20 : Int32) (a19 : Int32) (a14 : Int32) (a12 : Int32) (a11 : Int32) (a10 : Int32) (a9 : Int32) (s0 : Int32) (s1 : Int32) : Lk X b L xs (N) ad σ 1327 [(21, .int a21), (20, .int a20), (19, .int a19), (14, .int a14), (12, .int a12), (11, .int a11), (10, .int a10), (9, .int a9), (0, .ref b), (1, .ref (ad 0 0)), (2, .ref (ad 71 0)), (3, .ref (ad 72 0)), (4, .ref (ad 73 0)), (5, .ref (ad 74 0)), (6, .ref (ad 75 0)), (7, .ref (ad 76 0)), (8, .ref (ad 77 0))] [.int s0, .int s1] (j_L_law_1327 L xs k600 σ a21 a20 a19 a14 a12 a11 a10 a9 s0 s1) := by
  unfold j_L_law_1327
  refine k_icmp_ne 1334 dL_law_1327 (by decide) ?_ ?_
  · refine k_iconst (1) (by decide) dL_law_1330 ?_
    refine k_goto 1335 dL_law_1331 (by decide) ?_
    exact k_less (by omega) (k_sub [0, 1, 2, 3, 4, 5, 6, 7, 8, 9, 10, 11, 12, 13, 14, 15, 16] rfl (bj_L_law_1335 X hst b L xs N hk600 ad _ _ _ _ _ _ _ _ _ _))
  · refine k_iconst (0) (by decide) dL_law_1334 ?_
    exact k_less (by omega) (k_sub [0, 1, 2, 3, 4, 5, 6, 7, 8, 9, 10, 11, 12, 13, 14, 15, 16] rfl (bj_L_law_1335 X hst b L xs N hk600 ad _ _ _ _ _ _ _ _ _ _))
theorem bj_L_law_1301 (X : Xt) (hst : X.1.stackTraces = false) (b L : Nat) (xs : Nat → Int32) (N : Nat) {k600 : Wd → Int32 → Int32 → Int32 → Int32 → Int32 → Int32 → Option Unit} (hk600 : ∀ (ad : Ad) (σ : Wd) (a14 : Int32) (a13 : Int32) (a12 : Int32) (a11 : Int32) (a10 : Int32) (a9 : Int32), Lk X b L xs (N) ad σ 600 [(14, .int a14), (13, .int a13), (12, .int a12), (11, .int a11), (10, .int a10), (9, .int a9), (0, .ref b), (1, .ref (ad 0 0)), (2, .ref (ad 71 0)), (3, .ref (ad 72 0)), (4, .ref (ad 73 0)), (5, .ref (ad 74 0)), (6, .ref (ad 75 0)), (7, .ref (ad 76 0)), (8, .ref (ad 77 0))] [] (k600 σ a14 a13 a12 a11 a10 a9)) (ad : Ad) (σ : Wd) (a20 : Int32) (a19 : Int32) (a17 : Int32) (a14 : Int32) (a12 : Int32) (a11 : Int32) (a10 : Int32) (a9 : Int32) (s0 : Int32) : Lk X b L xs (N + 1) ad σ 1301 [(20, .int a20), (19, .int a19), (17, .int a17), (14, .int a14), (12, .int a12), (11, .int a11), (10, .int a10), (9, .int a9), (0, .ref b), (1, .ref (ad 0 0)), (2, .ref (ad 71 0)), (3, .ref (ad 72 0)), (4, .ref (ad 73 0)), (5, .ref (ad 74 0)), (6, .ref (ad 75 0)), (7, .ref (ad 76 0)), (8, .ref (ad 77 0))] [.int s0] (j_L_law_1301 L xs k600 σ a20 a19 a17 a14 a12 a11 a10 a9 s0) := by
  unfold j_L_law_1301
  refine k_istore [(21, .int _), (20, .int _), (19, .int _), (17, .int _), (14, .int _), (12, .int _), (11, .int _), (10, .int _), (9, .int _), (0, .ref _), (1, .ref _), (2, .ref _), (3, .ref _), (4, .ref _), (5, .ref _), (6, .ref _), (7, .ref _), (8, .ref _)] rfl (by decide) dL_law_1301 ?_
  refine k_aload_n 10 rfl dL_law_1303 ?_
  refine k_iconst (0) (by decide) dL_law_1304 ?_
  refine k_iload 3 rfl dL_law_1305 ?_
  refine k_iload 1 rfl dL_law_1307 ?_
  refine k_callW (n := 4) (As := [.ref _, .int _, .int _, .int _]) (fun kv τ hg => wn_shop X hst ad _ _ _ _ kv τ hg) ⟨by decide, by decide, by decide +kernel⟩ w_601 w_602 w_502 w_557 rfl rfl (Nat.le_of_ble_eq_true rfl) ⟨by decide, by decide⟩ ⟨by decide, by decide⟩ dL_law_1309 (fun v69 σ70 a1 hFa1 => ?_)
  rw [← hFa1 0 0 (by decide), ← hFa1 71 0 (by decide), ← hFa1 72 0 (by decide), ← hFa1 73 0 (by decide), ← hFa1 74 0 (by decide), ← hFa1 75 0 (by decide), ← hFa1 76 0 (by decide), ← hFa1 77 0 (by decide)]
  refine k_iload 0 rfl dL_law_1312 ?_
  refine k_if_eq 1324 dL_law_1314 (by decide) ?_ ?_
  · refine k_sipush (-1003) (by decide) dL_law_1324 ?_
    exact k_less (by omega) (k_sub [0, 1, 2, 4, 5, 6, 7, 8, 9, 10, 11, 12, 13, 14, 15, 16, 17] rfl (bj_L_law_1327 X hst b L xs N hk600 a1 _ _ _ _ _ _ _ _ _ _ _))
  · refine k_iload 1 rfl dL_law_1317 ?_
    refine k_iconst (1) (by decide) dL_law_1319 ?_
    refine k_iadd dL_law_1320 ?_
    refine k_goto 1327 dL_law_1321 (by decide) ?_
    exact k_less (by omega) (k_sub [0, 1, 2, 4, 5, 6, 7, 8, 9, 10, 11, 12, 13, 14, 15, 16, 17] rfl (bj_L_law_1327 X hst b L xs N hk600 a1 _ _ _ _ _ _ _ _ _ _ _))
theorem bj_L_law_1300 (X : Xt) (hst : X.1.stackTraces = false) (b L : Nat) (xs : Nat → Int32) (N : Nat) {k600 : Wd → Int32 → Int32 → Int32 → Int32 → Int32 → Int32 → Option Unit} (hk600 : ∀ (ad : Ad) (σ : Wd) (a14 : Int32) (a13 : Int32) (a12 : Int32) (a11 : Int32) (a10 : Int32) (a9 : Int32), Lk X b L xs (N) ad σ 600 [(14, .int a14), (13, .int a13), (12, .int a12), (11, .int a11), (10, .int a10), (9, .int a9), (0, .ref b), (1, .ref (ad 0 0)), (2, .ref (ad 71 0)), (3, .ref (ad 72 0)), (4, .ref (ad 73 0)), (5, .ref (ad 74 0)), (6, .ref (ad 75 0)), (7, .ref (ad 76 0)), (8, .ref (ad 77 0))] [] (k600 σ a14 a13 a12 a11 a10 a9)) (ad : Ad) (σ : Wd) (a20 : Int32) (a19 : Int32) (a17 : Int32) (a14 : Int32) (a12 : Int32) (a11 : Int32) (a10 : Int32) (a9 : Int32) : Lk X b L xs (N + 1) ad σ 1300 [(20, .int a20), (19, .int a19), (17, .int a17), (14, .int a14), (12, .int a12), (11, .int a11), (10, .int a10), (9, .int a9), (0, .ref b), (1, .ref (ad 0 0)), (2, .ref (ad 71 0)), (3, .ref (ad 72 0)), (4, .ref (ad 73 0)), (5, .ref (ad 74 0)), (6, .ref (ad 75 0)), (7, .ref (ad 76 0)), (8, .ref (ad 77 0))] [] (j_L_law_1300 L xs k600 σ a20 a19 a17 a14 a12 a11 a10 a9) := by
  unfold j_L_law_1300
  refine k_iconst (0) (by decide) dL_law_1300 ?_
  exact k_less (by omega) (k_sub [0, 1, 2, 3, 4, 5, 6, 7, 8, 9, 10, 11, 12, 13, 14, 15, 16] rfl (bj_L_law_1301 X hst b L xs N hk600 ad _ _ _ _ _ _ _ _ _ _))
theorem bj_L_law_902 (X : Xt) (hst : X.1.stackTraces = false) (b L : Nat) (xs : Nat → Int32) (N : Nat) {k600 : Wd → Int32 → Int32 → Int32 → Int32 → Int32 → Int32 → Option Unit} (hk600 : ∀ (ad : Ad) (σ : Wd) (a14 : Int32) (a13 : Int32) (a12 : Int32) (a11 : Int32) (a10 : Int32) (a9 : Int32), Lk X b L xs (N) ad σ 600 [(14, .int a14), (13, .int a13), (12, .int a12), (11, .int a11), (10, .int a10), (9, .int a9), (0, .ref b), (1, .ref (ad 0 0)), (2, .ref (ad 71 0)), (3, .ref (ad 72 0)), (4, .ref (ad 73 0)), (5, .ref (ad 74 0)), (6, .ref (ad 75 0)), (7, .ref (ad 76 0)), (8, .ref (ad 77 0))] [] (k600 σ a14 a13 a12 a11 a10 a9)) (ad : Ad) (σ : Wd) (a13 : Int32) (a14 : Int32) (a12 : Int32) (a11 : Int32) (a10 : Int32) (a9 : Int32) : Lk X b L xs (N) ad σ 902 [(13, .int a13), (14, .int a14), (12, .int a12), (11, .int a11), (10, .int a10), (9, .int a9), (0, .ref b), (1, .ref (ad 0 0)), (2, .ref (ad 71 0)), (3, .ref (ad 72 0)), (4, .ref (ad 73 0)), (5, .ref (ad 74 0)), (6, .ref (ad 75 0)), (7, .ref (ad 76 0)), (8, .ref (ad 77 0))] [] (j_L_law_902 L xs k600 σ a13 a14 a12 a11 a10 a9) := by
  unfold j_L_law_902
  refine k_goto 1937 dL_law_902 (by decide) ?_
  exact k_less (by omega) (k_sub [0, 1, 2, 3, 4, 5, 6, 7, 8, 9, 10, 11, 12, 13, 14] rfl (bj_L_law_1937 X hst b L xs N hk600 ad _ _ _ _ _ _ _))
theorem bj_L_law_890 (X : Xt) (hst : X.1.stackTraces = false) (b L : Nat) (xs : Nat → Int32) (N : Nat) {k600 : Wd → Int32 → Int32 → Int32 → Int32 → Int32 → Int32 → Option Unit} (hk600 : ∀ (ad : Ad) (σ : Wd) (a14 : Int32) (a13 : Int32) (a12 : Int32) (a11 : Int32) (a10 : Int32) (a9 : Int32), Lk X b L xs (N) ad σ 600 [(14, .int a14), (13, .int a13), (12, .int a12), (11, .int a11), (10, .int a10), (9, .int a9), (0, .ref b), (1, .ref (ad 0 0)), (2, .ref (ad 71 0)), (3, .ref (ad 72 0)), (4, .ref (ad 73 0)), (5, .ref (ad 74 0)), (6, .ref (ad 75 0)), (7, .ref (ad 76 0)), (8, .ref (ad 77 0))] [] (k600 σ a14 a13 a12 a11 a10 a9)) (ad : Ad) (σ : Wd) (a13 : Int32) (a19 : Int32) (a14 : Int32) (a12 : Int32) (a11 : Int32) (a10 : Int32) (a9 : Int32) (s0 : Int32) (s1 : Int32) : Lk X b L xs (N) ad σ 890 [(13, .int a13), (19, .int a19), (14, .int a14), (12, .int a12), (11, .int a11), (10, .int a10), (9, .int a9), (0, .ref b), (1, .ref (ad 0 0)), (2, .ref (ad 71 0)), (3, .ref (ad 72 0)), (4, .ref (ad 73 0)), (5, .ref (ad 74 0)), (6, .ref (ad 75 0)), (7, .ref (ad 76 0)), (8, .ref (ad 77 0))] [.int s0, .int s1, .ref (ad 73 0)] (j_L_law_890 L xs k600 σ a13 a19 a14 a12 a11 a10 a9 s0 s1) := by
  unfold j_L_law_890
  refine k_gd (fun h32 => ?_)
  refine k_bd ?_
  refine k_iastore (lvs_73 _) (ia_73 _ _ _) h32 dL_law_890 ?_
  refine k_aload_n 9 rfl dL_law_891 ?_
  refine k_iload 1 rfl dL_law_892 ?_
  refine k_bipush (12) (by decide) dL_law_894 ?_
  refine k_iadd dL_law_896 ?_
  refine k_dup2 rfl rfl dL_law_897 ?_
  refine k_gd (fun h33 => ?_)
  refine k_iaload (lvs_71 _) (cell_71 _ _ _ _) h33 dL_law_898 ?_
  refine k_iconst (1) (by decide) dL_law_899 ?_
  refine k_iadd dL_law_900 ?_
  refine k_bd ?_
  refine k_iastore (lvs_71 _) (ia_71 _ _ _) h33 dL_law_901 ?_
  exact k_less (by omega) (k_sub [0, 2, 3, 4, 5, 6, 7, 8, 9, 10, 11, 12, 13, 14, 15] rfl (bj_L_law_902 X hst b L xs N hk600 ad _ _ _ _ _ _ _))
theorem bj_L_law_862 (X : Xt) (hst : X.1.stackTraces = false) (b L : Nat) (xs : Nat → Int32) (N : Nat) {k600 : Wd → Int32 → Int32 → Int32 → Int32 → Int32 → Int32 → Option Unit} (hk600 : ∀ (ad : Ad) (σ : Wd) (a14 : Int32) (a13 : Int32) (a12 : Int32) (a11 : Int32) (a10 : Int32) (a9 : Int32), Lk X b L xs (N) ad σ 600 [(14, .int a14), (13, .int a13), (12, .int a12), (11, .int a11), (10, .int a10), (9, .int a9), (0, .ref b), (1, .ref (ad 0 0)), (2, .ref (ad 71 0)), (3, .ref (ad 72 0)), (4, .ref (ad 73 0)), (5, .ref (ad 74 0)), (6, .ref (ad 75 0)), (7, .ref (ad 76 0)), (8, .ref (ad 77 0))] [] (k600 σ a14 a13 a12 a11 a10 a9)) (ad : Ad) (σ : Wd) (a13 : Int32) (a22 : Int32) (a21 : Int32) (a19 : Int32) (a18 : Int32) (a17 : Int32) (a14 : Int32) (a12 : Int32) (a11 : Int32) (a10 : Int32) (a9 : Int32) (s0 : Int32) (s1 : Int32) : Lk X b L xs (N) ad σ 862 [(13, .int a13), (22, .int a22), (21, .int a21), (19, .int a19), (18, .int a18), (17, .int a17), (14, .int a14), (12, .int a12), (11, .int a11), (10, .int a10), (9, .int a9), (0, .ref b), (1, .ref (ad 0 0)), (2, .ref (ad 71 0)), (3, .ref (ad 72 0)), (4, .ref (ad 73 0)), (5, .ref (ad 74 0)), (6, .ref (ad 75 0)), (7, .ref (ad 76 0)), (8, .ref (ad 77 0))] [.int s0, .int s1, .ref (ad 73 0)] (j_L_law_862 L xs k600 σ a13 a22 a21 a19 a18 a17 a14 a12 a11 a10 a9 s0 s1) := by
  unfold j_L_law_862
  refine k_gd (fun h31 => ?_)
  refine k_bd ?_
  refine k_iastore (lvs_73 _) (ia_73 _ _ _) h31 dL_law_862 ?_
  refine k_aload 15 rfl dL_law_863 ?_
  refine k_bipush (32) (by decide) dL_law_865 ?_
  refine k_bipush (8) (by decide) dL_law_867 ?_
  refine k_iload 5 rfl dL_law_869 ?_
  refine k_imul dL_law_871 ?_
  refine k_iadd dL_law_872 ?_
  refine k_iload 1 rfl dL_law_873 ?_
  refine k_iadd dL_law_875 ?_
  refine k_iload 4 rfl dL_law_876 ?_
  refine k_iconst (2) (by decide) dL_law_878 ?_
  refine k_irem (by decide) dL_law_879 ?_
  refine k_iconst (1) (by decide) dL_law_880 ?_
  refine k_icmp_ne 888 dL_law_881 (by decide) ?_ ?_
  · refine k_iconst (-1) (by decide) dL_law_884 ?_
    refine k_goto 890 dL_law_885 (by decide) ?_
    exact k_less (by omega) (k_sub [0, 3, 6, 7, 8, 9, 10, 11, 12, 13, 14, 15, 16, 17, 18, 19] rfl (bj_L_law_890 X hst b L xs N hk600 ad _ _ _ _ _ _ _ _ _ _))
  · refine k_iload 2 rfl dL_law_888 ?_
    exact k_less (by omega) (k_sub [0, 3, 6, 7, 8, 9, 10, 11, 12, 13, 14, 15, 16, 17, 18, 19] rfl (bj_L_law_890 X hst b L xs N hk600 ad _ _ _ _ _ _ _ _ _ _))
theorem bj_L_law_804 (X : Xt) (hst : X.1.stackTraces = false) (b L : Nat) (xs : Nat → Int32) (N : Nat) {k600 : Wd → Int32 → Int32 → Int32 → Int32 → Int32 → Int32 → Option Unit} (hk600 : ∀ (ad : Ad) (σ : Wd) (a14 : Int32) (a13 : Int32) (a12 : Int32) (a11 : Int32) (a10 : Int32) (a9 : Int32), Lk X b L xs (N) ad σ 600 [(14, .int a14), (13, .int a13), (12, .int a12), (11, .int a11), (10, .int a10), (9, .int a9), (0, .ref b), (1, .ref (ad 0 0)), (2, .ref (ad 71 0)), (3, .ref (ad 72 0)), (4, .ref (ad 73 0)), (5, .ref (ad 74 0)), (6, .ref (ad 75 0)), (7, .ref (ad 76 0)), (8, .ref (ad 77 0))] [] (k600 σ a14 a13 a12 a11 a10 a9)) (ad : Ad) (σ : Wd) (a22 : Int32) (a21 : Int32) (a20 : Int32) (a19 : Int32) (a18 : Int32) (a17 : Int32) (a14 : Int32) (a12 : Int32) (a11 : Int32) (a10 : Int32) (a9 : Int32) (s0 : Int32) : Lk X b L xs (N) ad σ 804 [(22, .int a22), (21, .int a21), (20, .int a20), (19, .int a19), (18, .int a18), (17, .int a17), (14, .int a14), (12, .int a12), (11, .int a11), (10, .int a10), (9, .int a9), (0, .ref b), (1, .ref (ad 0 0)), (2, .ref (ad 71 0)), (3, .ref (ad 72 0)), (4, .ref (ad 73 0)), (5, .ref (ad 74 0)), (6, .ref (ad 75 0)), (7, .ref (ad 76 0)), (8, .ref (ad 77 0))] [.int s0] (j_L_law_804 L xs k600 σ a22 a21 a20 a19 a18 a17 a14 a12 a11 a10 a9 s0) := by
  unfold j_L_law_804
  refine k_istore [(13, .int _), (22, .int _), (21, .int _), (20, .int _), (19, .int _), (18, .int _), (17, .int _), (14, .int _), (12, .int _), (11, .int _), (10, .int _), (9, .int _), (0, .ref _), (1, .ref _), (2, .ref _), (3, .ref _), (4, .ref _), (5, .ref _), (6, .ref _), (7, .ref _), (8, .ref _)] rfl (by decide) dL_law_804 ?_
  refine k_iload 1 rfl dL_law_806 ?_
  refine k_bipush (8) (by decide) dL_law_808 ?_
  refine k_icmp_ge 902 dL_law_810 (by decide) ?_ ?_
  · exact k_less (by omega) (k_sub [0, 7, 8, 9, 10, 11, 12, 13, 14, 15, 16, 17, 18, 19, 20] rfl (bj_L_law_902 X hst b L xs N hk600 ad _ _ _ _ _ _ _))
  · refine k_aload_n 15 rfl dL_law_813 ?_
    refine k_bipush (8) (by decide) dL_law_814 ?_
    refine k_iload 6 rfl dL_law_816 ?_
    refine k_imul dL_law_818 ?_
    refine k_iload 1 rfl dL_law_819 ?_
    refine k_iadd dL_law_821 ?_
    refine k_iload 5 rfl dL_law_822 ?_
    refine k_gd (fun h29 => ?_)
    refine k_bd ?_
    refine k_iastore (lvs_72 _) (ia_72 _ _ _) h29 dL_law_824 ?_
    refine k_aload_n 15 rfl dL_law_825 ?_
    refine k_bipush (32) (by decide) dL_law_826 ?_
    refine k_bipush (8) (by decide) dL_law_828 ?_
    refine k_iload 6 rfl dL_law_830 ?_
    refine k_imul dL_law_832 ?_
    refine k_iadd dL_law_833 ?_
    refine k_iload 1 rfl dL_law_834 ?_
    refine k_iadd dL_law_836 ?_
    refine k_iload 11 rfl dL_law_837 ?_
    refine k_gd (fun h30 => ?_)
    refine k_bd ?_
    refine k_iastore (lvs_72 _) (ia_72 _ _ _) h30 dL_law_839 ?_
    refine k_aload 16 rfl dL_law_840 ?_
    refine k_bipush (8) (by decide) dL_law_842 ?_
    refine k_iload 6 rfl dL_law_844 ?_
    refine k_imul dL_law_846 ?_
    refine k_iload 1 rfl dL_law_847 ?_
    refine k_iadd dL_law_849 ?_
    refine k_iload 5 rfl dL_law_850 ?_
    refine k_iconst (1) (by decide) dL_law_852 ?_
    refine k_icmp_le 860 dL_law_853 (by decide) ?_ ?_
    · refine k_iload 3 rfl dL_law_860 ?_
      exact k_less (by omega) (k_sub [0, 1, 2, 4, 5, 6, 7, 8, 9, 10, 11, 12, 13, 14, 15, 16, 17, 18, 19, 20] rfl (bj_L_law_862 X hst b L xs N hk600 ad _ _ _ _ _ _ _ _ _ _ _ _ _ _))
    · refine k_iconst (-1) (by decide) dL_law_856 ?_
      refine k_goto 862 dL_law_857 (by decide) ?_
      exact k_less (by omega) (k_sub [0, 1, 2, 4, 5, 6, 7, 8, 9, 10, 11, 12, 13, 14, 15, 16, 17, 18, 19, 20] rfl (bj_L_law_862 X hst b L xs N hk600 ad _ _ _ _ _ _ _ _ _ _ _ _ _ _))
theorem bj_L_law_796 (X : Xt) (hst : X.1.stackTraces = false) (b L : Nat) (xs : Nat → Int32) (N : Nat) {k600 : Wd → Int32 → Int32 → Int32 → Int32 → Int32 → Int32 → Option Unit} (hk600 : ∀ (ad : Ad) (σ : Wd) (a14 : Int32) (a13 : Int32) (a12 : Int32) (a11 : Int32) (a10 : Int32) (a9 : Int32), Lk X b L xs (N) ad σ 600 [(14, .int a14), (13, .int a13), (12, .int a12), (11, .int a11), (10, .int a10), (9, .int a9), (0, .ref b), (1, .ref (ad 0 0)), (2, .ref (ad 71 0)), (3, .ref (ad 72 0)), (4, .ref (ad 73 0)), (5, .ref (ad 74 0)), (6, .ref (ad 75 0)), (7, .ref (ad 76 0)), (8, .ref (ad 77 0))] [] (k600 σ a14 a13 a12 a11 a10 a9)) (ad : Ad) (σ : Wd) (a22 : Int32) (a21 : Int32) (a20 : Int32) (a19 : Int32) (a18 : Int32) (a17 : Int32) (a14 : Int32) (a12 : Int32) (a11 : Int32) (a10 : Int32) (a9 : Int32) (s0 : Int32) (s1 : Int32) : Lk X b L xs (N) ad σ 796 [(22, .int a22), (21, .int a21), (20, .int a20), (19, .int a19), (18, .int a18), (17, .int a17), (14, .int a14), (12, .int a12), (11, .int a11), (10, .int a10), (9, .int a9), (0, .ref b), (1, .ref (ad 0 0)), (2, .ref (ad 71 0)), (3, .ref (ad 72 0)), (4, .ref (ad 73 0)), (5, .ref (ad 74 0)), (6, .ref (ad 75 0)), (7, .ref (ad 76 0)), (8, .ref (ad 77 0))] [.int s0, .int s1] (j_L_law_796 L xs k600 σ a22 a21 a20 a19 a18 a17 a14 a12 a11 a10 a9 s0 s1) := by
  unfold j_L_law_796
  refine k_icmp_ne 803 dL_law_796 (by decide) ?_ ?_
  · refine k_iconst (1) (by decide) dL_law_799 ?_
    refine k_goto 804 dL_law_800 (by decide) ?_
    exact k_less (by omega) (k_sub [0, 1, 2, 3, 4, 5, 6, 7, 8, 9, 10, 11, 12, 13, 14, 15, 16, 17, 18, 19] rfl (bj_L_law_804 X hst b L xs N hk600 ad _ _ _ _ _ _ _ _ _ _ _ _ _))
  · refine k_iconst (0) (by decide) dL_law_803 ?_
    exact k_less (by omega) (k_sub [0, 1, 2, 3, 4, 5, 6, 7, 8, 9, 10, 11, 12, 13, 14, 15, 16, 17, 18, 19] rfl (bj_L_law_804 X hst b L xs N hk600 ad _ _ _ _ _ _ _ _ _ _ _ _ _))
theorem bj_L_law_756 (X : Xt) (hst : X.1.stackTraces = false) (b L : Nat) (xs : Nat → Int32) (N : Nat) {k600 : Wd → Int32 → Int32 → Int32 → Int32 → Int32 → Int32 → Option Unit} (hk600 : ∀ (ad : Ad) (σ : Wd) (a14 : Int32) (a13 : Int32) (a12 : Int32) (a11 : Int32) (a10 : Int32) (a9 : Int32), Lk X b L xs (N) ad σ 600 [(14, .int a14), (13, .int a13), (12, .int a12), (11, .int a11), (10, .int a10), (9, .int a9), (0, .ref b), (1, .ref (ad 0 0)), (2, .ref (ad 71 0)), (3, .ref (ad 72 0)), (4, .ref (ad 73 0)), (5, .ref (ad 74 0)), (6, .ref (ad 75 0)), (7, .ref (ad 76 0)), (8, .ref (ad 77 0))] [] (k600 σ a14 a13 a12 a11 a10 a9)) (ad : Ad) (σ : Wd) (a20 : Int32) (a19 : Int32) (a18 : Int32) (a17 : Int32) (a14 : Int32) (a12 : Int32) (a11 : Int32) (a10 : Int32) (a9 : Int32) (s0 : Int32) : Lk X b L xs (N + 1) ad σ 756 [(20, .int a20), (19, .int a19), (18, .int a18), (17, .int a17), (14, .int a14), (12, .int a12), (11, .int a11), (10, .int a10), (9, .int a9), (0, .ref b), (1, .ref (ad 0 0)), (2, .ref (ad 71 0)), (3, .ref (ad 72 0)), (4, .ref (ad 73 0)), (5, .ref (ad 74 0)), (6, .ref (ad 75 0)), (7, .ref (ad 76 0)), (8, .ref (ad 77 0))] [.int s0] (j_L_law_756 L xs k600 σ a20 a19 a18 a17 a14 a12 a11 a10 a9 s0) := by
  unfold j_L_law_756
  refine k_istore [(21, .int _), (20, .int _), (19, .int _), (18, .int _), (17, .int _), (14, .int _), (12, .int _), (11, .int _), (10, .int _), (9, .int _), (0, .ref _), (1, .ref _), (2, .ref _), (3, .ref _), (4, .ref _), (5, .ref _), (6, .ref _), (7, .ref _), (8, .ref _)] rfl (by decide) dL_law_756 ?_
  refine k_aload_n 12 rfl dL_law_758 ?_
  refine k_iload 2 rfl dL_law_759 ?_
  refine k_bipush (12) (by decide) dL_law_761 ?_
  refine k_iadd dL_law_763 ?_
  refine k_gd (fun h28 => ?_)
  refine k_iaload (lvs_71 _) (cell_71 _ _ _ _) h28 dL_law_764 ?_
  refine k_bd ?_
  refine k_istore [(22, .int _), (21, .int _), (20, .int _), (19, .int _), (18, .int _), (17, .int _), (14, .int _), (12, .int _), (11, .int _), (10, .int _), (9, .int _), (0, .ref _), (1, .ref _), (2, .ref _), (3, .ref _), (4, .ref _), (5, .ref _), (6, .ref _), (7, .ref _), (8, .ref _)] rfl (by decide) dL_law_765 ?_
  refine k_aload_n 12 rfl dL_law_767 ?_
  refine k_iload 5 rfl dL_law_768 ?_
  refine k_iload 4 rfl dL_law_770 ?_
  refine k_iload 2 rfl dL_law_772 ?_
  refine k_iload 1 rfl dL_law_774 ?_
  refine k_callW (n := 5) (As := [.ref _, .int _, .int _, .int _, .int _]) (fun kv τ hg => wn_told X hst ad _ _ _ _ _ kv τ hg) ⟨by decide, by decide, by decide +kernel⟩ w_621 w_622 w_502 w_574 rfl rfl (Nat.le_of_ble_eq_true rfl) ⟨by decide, by decide⟩ ⟨by decide, by decide⟩ dL_law_776 (fun v78 σ79 a1 hFa1 => ?_)
  rw [← hFa1 0 0 (by decide), ← hFa1 71 0 (by decide), ← hFa1 72 0 (by decide), ← hFa1 73 0 (by decide), ← hFa1 74 0 (by decide), ← hFa1 75 0 (by decide), ← hFa1 76 0 (by decide), ← hFa1 77 0 (by decide)]
  refine k_iload 0 rfl dL_law_779 ?_
  refine k_bipush (8) (by decide) dL_law_781 ?_
  refine k_icmp_ne 792 dL_law_783 (by decide) ?_ ?_
  · refine k_sipush (-1003) (by decide) dL_law_786 ?_
    refine k_goto 796 dL_law_789 (by decide) ?_
    exact k_less (by omega) (k_sub [0, 1, 2, 3, 4, 5, 6, 7, 8, 9, 10, 11, 12, 13, 14, 15, 16, 17, 18, 19] rfl (bj_L_law_796 X hst b L xs N hk600 a1 _ _ _ _ _ _ _ _ _ _ _ _ _ _))
  · refine k_iload 0 rfl dL_law_792 ?_
    refine k_iconst (1) (by decide) dL_law_794 ?_
    refine k_iadd dL_law_795 ?_
    exact k_less (by omega) (k_sub [0, 1, 2, 3, 4, 5, 6, 7, 8, 9, 10, 11, 12, 13, 14, 15, 16, 17, 18, 19] rfl (bj_L_law_796 X hst b L xs N hk600 a1 _ _ _ _ _ _ _ _ _ _ _ _ _ _))
theorem bj_L_law_696 (X : Xt) (hst : X.1.stackTraces = false) (b L : Nat) (xs : Nat → Int32) (N : Nat) {k600 : Wd → Int32 → Int32 → Int32 → Int32 → Int32 → Int32 → Option Unit} (hk600 : ∀ (ad : Ad) (σ : Wd) (a14 : Int32) (a13 : Int32) (a12 : Int32) (a11 : Int32) (a10 : Int32) (a9 : Int32), Lk X b L xs (N) ad σ 600 [(14, .int a14), (13, .int a13), (12, .int a12), (11, .int a11), (10, .int a10), (9, .int a9), (0, .ref b), (1, .ref (ad 0 0)), (2, .ref (ad 71 0)), (3, .ref (ad 72 0)), (4, .ref (ad 73 0)), (5, .ref (ad 74 0)), (6, .ref (ad 75 0)), (7, .ref (ad 76 0)), (8, .ref (ad 77 0))] [] (k600 σ a14 a13 a12 a11 a10 a9)) (ad : Ad) (σ : Wd) (a19 : Int32) (a18 : Int32) (a17 : Int32) (a15 : Int32) (a14 : Int32) (a12 : Int32) (a11 : Int32) (a10 : Int32) (a9 : Int32) (s0 : Int32) : Lk X b L xs (N + 1) ad σ 696 [(19, .int a19), (18, .int a18), (17, .int a17), (15, .int a15), (14, .int a14), (12, .int a12), (11, .int a11), (10, .int a10), (9, .int a9), (0, .ref b), (1, .ref (ad 0 0)), (2, .ref (ad 71 0)), (3, .ref (ad 72 0)), (4, .ref (ad 73 0)), (5, .ref (ad 74 0)), (6, .ref (ad 75 0)), (7, .ref (ad 76 0)), (8, .ref (ad 77 0))] [.int s0] (j_L_law_696 L xs k600 σ a19 a18 a17 a15 a14 a12 a11 a10 a9 s0) := by
  unfold j_L_law_696
  refine k_istore [(20, .int _), (19, .int _), (18, .int _), (17, .int _), (15, .int _), (14, .int _), (12, .int _), (11, .int _), (10, .int _), (9, .int _), (0, .ref _), (1, .ref _), (2, .ref _), (3, .ref _), (4, .ref _), (5, .ref _), (6, .ref _), (7, .ref _), (8, .ref _)] rfl (by decide) dL_law_696 ?_
  refine k_iload 2 rfl dL_law_698 ?_
  refine k_if_ne 719 dL_law_700 (by decide) ?_ ?_
  · refine k_iconst (1) (by decide) dL_law_703 ?_
    refine k_iload 4 rfl dL_law_704 ?_
    refine k_sipush (512) (by decide) dL_law_706 ?_
    refine k_idiv (by decide) dL_law_709 ?_
    refine k_bipush (20) (by decide) dL_law_710 ?_
    refine k_callS (n := 2) (As := [.int _, .int _]) (nc_L_up X hst ad _ _ _) ⟨by decide, by decide, by decide +kernel⟩ w_582 w_583 w_502 w_584 rfl rfl (Nat.le_of_ble_eq_true rfl) ⟨by decide, by decide⟩ dL_law_712 (fun v75 σ76 => ?_)
    refine k_iadd dL_law_715 ?_
    refine k_goto 756 dL_law_716 (by decide) ?_
    exact k_less (by omega) (k_sub [0, 1, 2, 3, 5, 6, 7, 8, 9, 10, 11, 12, 13, 14, 15, 16, 17, 18] rfl (bj_L_law_756 X hst b L xs N hk600 ad _ _ _ _ _ _ _ _ _ _ _))
  · refine k_iload 2 rfl dL_law_719 ?_
    refine k_iconst (2) (by decide) dL_law_721 ?_
    refine k_icmp_ne 741 dL_law_722 (by decide) ?_ ?_
    · refine k_iconst (1) (by decide) dL_law_725 ?_
      refine k_iload 4 rfl dL_law_726 ?_
      refine k_sipush (512) (by decide) dL_law_728 ?_
      refine k_idiv (by decide) dL_law_731 ?_
      refine k_bipush (100) (by decide) dL_law_732 ?_
      refine k_callS (n := 2) (As := [.int _, .int _]) (nc_L_up X hst ad _ _ _) ⟨by decide, by decide, by decide +kernel⟩ w_582 w_583 w_502 w_584 rfl rfl (Nat.le_of_ble_eq_true rfl) ⟨by decide, by decide⟩ dL_law_734 (fun v85 σ86 => ?_)
      refine k_iadd dL_law_737 ?_
      refine k_goto 756 dL_law_738 (by decide) ?_
      exact k_less (by omega) (k_sub [0, 1, 2, 3, 5, 6, 7, 8, 9, 10, 11, 12, 13, 14, 15, 16, 17, 18] rfl (bj_L_law_756 X hst b L xs N hk600 ad _ _ _ _ _ _ _ _ _ _ _))
    · refine k_iload 4 rfl dL_law_741 ?_
      refine k_sipush (512) (by decide) dL_law_743 ?_
      refine k_idiv (by decide) dL_law_746 ?_
      refine k_sipush (300) (by decide) dL_law_747 ?_
      refine k_callS (n := 2) (As := [.int _, .int _]) (nc_L_up X hst ad _ _ _) ⟨by decide, by decide, by decide +kernel⟩ w_582 w_583 w_502 w_584 rfl rfl (Nat.le_of_ble_eq_true rfl) ⟨by decide, by decide⟩ dL_law_750 (fun v87 σ88 => ?_)
      refine k_bipush (100) (by decide) dL_law_753 ?_
      refine k_isub dL_law_755 ?_
      exact k_less (by omega) (k_sub [0, 1, 2, 3, 5, 6, 7, 8, 9, 10, 11, 12, 13, 14, 15, 16, 17, 18] rfl (bj_L_law_756 X hst b L xs N hk600 ad _ _ _ _ _ _ _ _ _ _ _))
theorem bl_L_law_600 (X : Xt) (hst : X.1.stackTraces = false) (b L : Nat) (xs : Nat → Int32) (N : Nat) : ∀ (n : Nat) (ad : Ad) (σ : Wd) (a14 : Int32) (a13 : Int32) (a12 : Int32) (a11 : Int32) (a10 : Int32) (a9 : Int32), Lk X b L xs (0 + n) ad σ 600 [(14, .int a14), (13, .int a13), (12, .int a12), (11, .int a11), (10, .int a10), (9, .int a9), (0, .ref b), (1, .ref (ad 0 0)), (2, .ref (ad 71 0)), (3, .ref (ad 72 0)), (4, .ref (ad 73 0)), (5, .ref (ad 74 0)), (6, .ref (ad 75 0)), (7, .ref (ad 76 0)), (8, .ref (ad 77 0))] [] (l_L_law_600 L xs n σ a14 a13 a12 a11 a10 a9) := by
  intro n
  induction n with
  | zero => intros; exact k_none
  | succ n ih =>
  intro ad σ a14 a13 a12 a11 a10 a9
  rw [l_L_law_600]
  show Lk X b L xs (0 + n + 1) _ _ _ _ _ _
  refine k_iload 0 rfl dL_law_600 ?_
  refine k_bipush (67) (by decide) dL_law_602 ?_
  refine k_icmp_ge 1976 dL_law_604 (by decide) ?_ ?_
  · refine k_iload 1 rfl dL_law_1976 ?_
    exact k_end dL_law_1978
  · refine k_iload 1 rfl dL_law_607 ?_
    refine k_if_eq 1976 dL_law_609 (by decide) ?_ ?_
    · refine k_iload 1 rfl dL_law_1976 ?_
      exact k_end dL_law_1978
    · refine k_aload_n 6 rfl dL_law_612 ?_
      refine k_iload 0 rfl dL_law_613 ?_
      refine k_gd (fun h1 => ?_)
      refine k_cell hst h1 w_579 w_580 w_502 w_581 (Nat.le_of_ble_eq_true rfl) dL_law_615 ?_
      refine k_bd ?_
      refine k_istore [(15, .int _), (14, .int _), (13, .int _), (12, .int _), (11, .int _), (10, .int _), (9, .int _), (0, .ref _), (1, .ref _), (2, .ref _), (3, .ref _), (4, .ref _), (5, .ref _), (6, .ref _), (7, .ref _), (8, .ref _)] rfl (by decide) dL_law_618 ?_
      refine k_iload 0 rfl dL_law_620 ?_
      refine k_bipush (14) (by decide) dL_law_622 ?_
      refine k_callS (n := 2) (As := [.int _, .int _]) (nc_L_up X hst ad _ _ _) ⟨by decide, by decide, by decide +kernel⟩ w_582 w_583 w_502 w_584 rfl rfl (Nat.le_of_ble_eq_true rfl) ⟨by decide, by decide⟩ dL_law_624 (fun v2 σ3 => ?_)
      refine k_istore [(16, .int _), (15, .int _), (14, .int _), (13, .int _), (12, .int _), (11, .int _), (10, .int _), (9, .int _), (0, .ref _), (1, .ref _), (2, .ref _), (3, .ref _), (4, .ref _), (5, .ref _), (6, .ref _), (7, .ref _), (8, .ref _)] rfl (by decide) dL_law_627 ?_
      refine k_iload 1 rfl dL_law_629 ?_
      refine k_bipush (16) (by decide) dL_law_631 ?_
      refine k_idiv (by decide) dL_law_633 ?_
      refine k_iconst (4) (by decide) dL_law_634 ?_
      refine k_callS (n := 2) (As := [.int _, .int _]) (nc_L_up X hst ad _ _ _) ⟨by decide, by decide, by decide +kernel⟩ w_582 w_583 w_502 w_584 rfl rfl (Nat.le_of_ble_eq_true rfl) ⟨by decide, by decide⟩ dL_law_635 (fun v4 σ5 => ?_)
      refine k_istore [(17, .int _), (16, .int _), (15, .int _), (14, .int _), (13, .int _), (12, .int _), (11, .int _), (10, .int _), (9, .int _), (0, .ref _), (1, .ref _), (2, .ref _), (3, .ref _), (4, .ref _), (5, .ref _), (6, .ref _), (7, .ref _), (8, .ref _)] rfl (by decide) dL_law_638 ?_
      refine k_iload 2 rfl dL_law_640 ?_
      refine k_bipush (64) (by decide) dL_law_642 ?_
      refine k_idiv (by decide) dL_law_644 ?_
      refine k_iconst (4) (by decide) dL_law_645 ?_
      refine k_callS (n := 2) (As := [.int _, .int _]) (nc_L_up X hst ad _ _ _) ⟨by decide, by decide, by decide +kernel⟩ w_582 w_583 w_502 w_584 rfl rfl (Nat.le_of_ble_eq_true rfl) ⟨by decide, by decide⟩ dL_law_646 (fun v6 σ7 => ?_)
      refine k_istore [(18, .int _), (17, .int _), (16, .int _), (15, .int _), (14, .int _), (13, .int _), (12, .int _), (11, .int _), (10, .int _), (9, .int _), (0, .ref _), (1, .ref _), (2, .ref _), (3, .ref _), (4, .ref _), (5, .ref _), (6, .ref _), (7, .ref _), (8, .ref _)] rfl (by decide) dL_law_649 ?_
      refine k_bipush (16) (by decide) dL_law_651 ?_
      refine k_iload 1 rfl dL_law_653 ?_
      refine k_imul dL_law_655 ?_
      refine k_istore [(19, .int _), (18, .int _), (17, .int _), (16, .int _), (15, .int _), (14, .int _), (13, .int _), (12, .int _), (11, .int _), (10, .int _), (9, .int _), (0, .ref _), (1, .ref _), (2, .ref _), (3, .ref _), (4, .ref _), (5, .ref _), (6, .ref _), (7, .ref _), (8, .ref _)] rfl (by decide) dL_law_656 ?_
      refine k_iload 3 rfl dL_law_658 ?_
      refine k_iconst (2) (by decide) dL_law_660 ?_
      refine k_icmp_ge 905 dL_law_661 (by decide) ?_ ?_
      · refine k_iload 3 rfl dL_law_905 ?_
        refine k_iconst (2) (by decide) dL_law_907 ?_
        refine k_icmp_ne 1026 dL_law_908 (by decide) ?_ ?_
        · refine k_iload 4 rfl dL_law_911 ?_
          refine k_sipush (256) (by decide) dL_law_913 ?_
          refine k_idiv (by decide) dL_law_916 ?_
          refine k_iconst (4) (by decide) dL_law_917 ?_
          refine k_callS (n := 2) (As := [.int _, .int _]) (nc_L_up X hst ad _ _ _) ⟨by decide, by decide, by decide +kernel⟩ w_582 w_583 w_502 w_584 rfl rfl (Nat.le_of_ble_eq_true rfl) ⟨by decide, by decide⟩ dL_law_918 (fun v8 σ9 => ?_)
          refine k_if_ne 928 dL_law_921 (by decide) ?_ ?_
          · refine k_iconst (-1) (by decide) dL_law_924 ?_
            refine k_goto 939 dL_law_925 (by decide) ?_
            exact k_less (by omega) (k_sub [1, 4, 5, 7, 8, 9, 10, 11, 12, 13, 14, 15, 16, 17, 18, 19] rfl (bj_L_law_939 X hst b L xs (0 + n) ih ad _ _ _ _ _ _ _ _ _))
          · refine k_iload 4 rfl dL_law_928 ?_
            refine k_sipush (256) (by decide) dL_law_930 ?_
            refine k_idiv (by decide) dL_law_933 ?_
            refine k_bipush (31) (by decide) dL_law_934 ?_
            refine k_callS (n := 2) (As := [.int _, .int _]) (nc_L_up X hst ad _ _ _) ⟨by decide, by decide, by decide +kernel⟩ w_582 w_583 w_502 w_584 rfl rfl (Nat.le_of_ble_eq_true rfl) ⟨by decide, by decide⟩ dL_law_936 (fun v20 σ21 => ?_)
            exact k_less (by omega) (k_sub [1, 4, 5, 7, 8, 9, 10, 11, 12, 13, 14, 15, 16, 17, 18, 19] rfl (bj_L_law_939 X hst b L xs (0 + n) ih ad _ _ _ _ _ _ _ _ _))
        · refine k_iload 3 rfl dL_law_1026 ?_
          refine k_iconst (3) (by decide) dL_law_1028 ?_
          refine k_icmp_ne 1183 dL_law_1029 (by decide) ?_ ?_
          · refine k_iload 4 rfl dL_law_1032 ?_
            refine k_sipush (256) (by decide) dL_law_1034 ?_
            refine k_idiv (by decide) dL_law_1037 ?_
            refine k_iconst (3) (by decide) dL_law_1038 ?_
            refine k_callS (n := 2) (As := [.int _, .int _]) (nc_L_up X hst ad _ _ _) ⟨by decide, by decide, by decide +kernel⟩ w_582 w_583 w_502 w_584 rfl rfl (Nat.le_of_ble_eq_true rfl) ⟨by decide, by decide⟩ dL_law_1039 (fun v22 σ23 => ?_)
            refine k_istore [(20, .int _), (19, .int _), (18, .int _), (17, .int _), (16, .int _), (15, .int _), (14, .int _), (13, .int _), (12, .int _), (11, .int _), (10, .int _), (9, .int _), (0, .ref _), (1, .ref _), (2, .ref _), (3, .ref _), (4, .ref _), (5, .ref _), (6, .ref _), (7, .ref _), (8, .ref _)] rfl (by decide) dL_law_1042 ?_
            refine k_aload 19 rfl dL_law_1044 ?_
            refine k_iload 0 rfl dL_law_1046 ?_
            refine k_bipush (100) (by decide) dL_law_1048 ?_
            refine k_iload 5 rfl dL_law_1050 ?_
            refine k_sipush (512) (by decide) dL_law_1052 ?_
            refine k_idiv (by decide) dL_law_1055 ?_
            refine k_iload 0 rfl dL_law_1056 ?_
            refine k_if_ne 1067 dL_law_1058 (by decide) ?_ ?_
            · refine k_sipush (1500) (by decide) dL_law_1061 ?_
              refine k_goto 1070 dL_law_1064 (by decide) ?_
              exact k_less (by omega) (k_sub [0, 5, 6, 8, 9, 10, 11, 12, 13, 14, 15, 16, 17, 18, 19, 20] rfl (bj_L_law_1070 X hst b L xs (0 + n) ih ad _ _ _ _ _ _ _ _ _ _ _ _))
            · refine k_sipush (9000) (by decide) dL_law_1067 ?_
              exact k_less (by omega) (k_sub [0, 5, 6, 8, 9, 10, 11, 12, 13, 14, 15, 16, 17, 18, 19, 20] rfl (bj_L_law_1070 X hst b L xs (0 + n) ih ad _ _ _ _ _ _ _ _ _ _ _ _))
          · refine k_iload 3 rfl dL_law_1183 ?_
            refine k_iconst (4) (by decide) dL_law_1185 ?_
            refine k_icmp_ne 1265 dL_law_1186 (by decide) ?_ ?_
            · refine k_iload 4 rfl dL_law_1189 ?_
              refine k_sipush (256) (by decide) dL_law_1191 ?_
              refine k_idiv (by decide) dL_law_1194 ?_
              refine k_iconst (3) (by decide) dL_law_1195 ?_
              refine k_callS (n := 2) (As := [.int _, .int _]) (nc_L_up X hst ad _ _ _) ⟨by decide, by decide, by decide +kernel⟩ w_582 w_583 w_502 w_584 rfl rfl (Nat.le_of_ble_eq_true rfl) ⟨by decide, by decide⟩ dL_law_1196 (fun v35 σ36 => ?_)
              refine k_istore [(20, .int _), (19, .int _), (18, .int _), (17, .int _), (16, .int _), (15, .int _), (14, .int _), (13, .int _), (12, .int _), (11, .int _), (10, .int _), (9, .int _), (0, .ref _), (1, .ref _), (2, .ref _), (3, .ref _), (4, .ref _), (5, .ref _), (6, .ref _), (7, .ref _), (8, .ref _)] rfl (by decide) dL_law_1199 ?_
              refine k_iload 5 rfl dL_law_1201 ?_
              refine k_sipush (512) (by decide) dL_law_1203 ?_
              refine k_idiv (by decide) dL_law_1206 ?_
              refine k_iconst (3) (by decide) dL_law_1207 ?_
              refine k_callS (n := 2) (As := [.int _, .int _]) (nc_L_up X hst ad _ _ _) ⟨by decide, by decide, by decide +kernel⟩ w_582 w_583 w_502 w_584 rfl rfl (Nat.le_of_ble_eq_true rfl) ⟨by decide, by decide⟩ dL_law_1208 (fun v37 σ38 => ?_)
              refine k_if_ne 1218 dL_law_1211 (by decide) ?_ ?_
              · refine k_iconst (-1) (by decide) dL_law_1214 ?_
                refine k_goto 1220 dL_law_1215 (by decide) ?_
                exact k_less (by omega) (k_sub [0, 6, 8, 9, 10, 11, 12, 13, 14, 15, 16, 17, 18, 19, 20] rfl (bj_L_law_1220 X hst b L xs (0 + n) ih ad _ _ _ _ _ _ _ _))
              · refine k_iload 3 rfl dL_law_1218 ?_
                exact k_less (by omega) (k_sub [0, 6, 8, 9, 10, 11, 12, 13, 14, 15, 16, 17, 18, 19, 20] rfl (bj_L_law_1220 X hst b L xs (0 + n) ih ad _ _ _ _ _ _ _ _))
            · refine k_iload 3 rfl dL_law_1265 ?_
              refine k_bipush (7) (by decide) dL_law_1267 ?_
              refine k_icmp_ge 1400 dL_law_1269 (by decide) ?_ ?_
              · refine k_iload 3 rfl dL_law_1400 ?_
                refine k_bipush (7) (by decide) dL_law_1402 ?_
                refine k_icmp_ne 1674 dL_law_1404 (by decide) ?_ ?_
                · refine k_aload_n 13 rfl dL_law_1407 ?_
                  refine k_iload 0 rfl dL_law_1408 ?_
                  refine k_gd (fun h13 => ?_)
                  refine k_iaload (lvs_71 _) (cell_71 _ _ _ _) h13 dL_law_1410 ?_
                  refine k_if_ne 1423 dL_law_1411 (by decide) ?_ ?_
                  · refine k_iload 7 rfl dL_law_1414 ?_
                    refine k_if_ne 1423 dL_law_1416 (by decide) ?_ ?_
                    · refine k_iconst (1) (by decide) dL_law_1419 ?_
                      refine k_goto 1424 dL_law_1420 (by decide) ?_
                      exact k_less (by omega) (k_sub [0, 2, 5, 7, 8, 9, 10, 11, 12, 13, 14, 15, 16, 17, 18, 19] rfl (bj_L_law_1424 X hst b L xs (0 + n) ih ad _ _ _ _ _ _ _ _ _))
                    · exact k_less (by omega) (k_sub [0, 2, 5, 7, 8, 9, 10, 11, 12, 13, 14, 15, 16, 17, 18, 19] rfl (bj_L_law_1423 X hst b L xs (0 + n) ih ad _ _ _ _ _ _ _ _))
                  · exact k_less (by omega) (k_sub [0, 2, 5, 7, 8, 9, 10, 11, 12, 13, 14, 15, 16, 17, 18, 19] rfl (bj_L_law_1423 X hst b L xs (0 + n) ih ad _ _ _ _ _ _ _ _))
                · refine k_iload 3 rfl dL_law_1674 ?_
                  refine k_bipush (8) (by decide) dL_law_1676 ?_
                  refine k_icmp_ne 1782 dL_law_1678 (by decide) ?_ ?_
                  · refine k_iload 4 rfl dL_law_1681 ?_
                    refine k_sipush (256) (by decide) dL_law_1683 ?_
                    refine k_idiv (by decide) dL_law_1686 ?_
                    refine k_iconst (4) (by decide) dL_law_1687 ?_
                    refine k_callS (n := 2) (As := [.int _, .int _]) (nc_L_up X hst ad _ _ _) ⟨by decide, by decide, by decide +kernel⟩ w_582 w_583 w_502 w_584 rfl rfl (Nat.le_of_ble_eq_true rfl) ⟨by decide, by decide⟩ dL_law_1688 (fun v50 σ51 => ?_)
                    refine k_istore [(20, .int _), (19, .int _), (18, .int _), (17, .int _), (16, .int _), (15, .int _), (14, .int _), (13, .int _), (12, .int _), (11, .int _), (10, .int _), (9, .int _), (0, .ref _), (1, .ref _), (2, .ref _), (3, .ref _), (4, .ref _), (5, .ref _), (6, .ref _), (7, .ref _), (8, .ref _)] rfl (by decide) dL_law_1691 ?_
                    refine k_iload 0 rfl dL_law_1693 ?_
                    refine k_aload_n 14 rfl dL_law_1695 ?_
                    refine k_iload 1 rfl dL_law_1696 ?_
                    refine k_bipush (12) (by decide) dL_law_1698 ?_
                    refine k_iadd dL_law_1700 ?_
                    refine k_gd (fun h21 => ?_)
                    refine k_iaload (lvs_71 _) (cell_71 _ _ _ _) h21 dL_law_1701 ?_
                    refine k_icmp_lt 1711 dL_law_1702 (by decide) ?_ ?_
                    · refine k_aload_n 15 rfl dL_law_1711 ?_
                      refine k_bipush (8) (by decide) dL_law_1712 ?_
                      refine k_iload 3 rfl dL_law_1714 ?_
                      refine k_imul dL_law_1716 ?_
                      refine k_iload 0 rfl dL_law_1717 ?_
                      refine k_iadd dL_law_1719 ?_
                      refine k_gd (fun h22 => ?_)
                      refine k_iaload (lvs_72 _) (cell_72 _ _ _ _) h22 dL_law_1720 ?_
                      refine k_if_ne 1730 dL_law_1721 (by decide) ?_ ?_
                      · refine k_sipush (-1003) (by decide) dL_law_1724 ?_
                        refine k_goto 1740 dL_law_1727 (by decide) ?_
                        exact k_less (by omega) (k_sub [0, 3, 6, 8, 9, 10, 11, 12, 13, 14, 15, 16, 17, 18, 19, 20] rfl (bj_L_law_1740 X hst b L xs (0 + n) ih ad _ _ _ _ _ _ _ _ _))
                      · refine k_aload_n 15 rfl dL_law_1730 ?_
                        refine k_bipush (8) (by decide) dL_law_1731 ?_
                        refine k_iload 3 rfl dL_law_1733 ?_
                        refine k_imul dL_law_1735 ?_
                        refine k_iload 0 rfl dL_law_1736 ?_
                        refine k_iadd dL_law_1738 ?_
                        refine k_iaload (lvs_72 _) (cell_72 _ _ _ _) h22 dL_law_1739 ?_
                        exact k_less (by omega) (k_sub [0, 3, 6, 8, 9, 10, 11, 12, 13, 14, 15, 16, 17, 18, 19, 20] rfl (bj_L_law_1740 X hst b L xs (0 + n) ih ad _ _ _ _ _ _ _ _ _))
                    · refine k_sipush (-1001) (by decide) dL_law_1705 ?_
                      refine k_goto 1740 dL_law_1708 (by decide) ?_
                      exact k_less (by omega) (k_sub [0, 3, 6, 8, 9, 10, 11, 12, 13, 14, 15, 16, 17, 18, 19, 20] rfl (bj_L_law_1740 X hst b L xs (0 + n) ih ad _ _ _ _ _ _ _ _ _))
                  · refine k_aload_n 13 rfl dL_law_1782 ?_
                    refine k_aload_n 14 rfl dL_law_1783 ?_
                    refine k_aload 15 rfl dL_law_1784 ?_
                    refine k_aload 17 rfl dL_law_1786 ?_
                    refine k_aload 18 rfl dL_law_1788 ?_
                    refine k_iload 10 rfl dL_law_1790 ?_
                    refine k_aload 19 rfl dL_law_1792 ?_
                    refine k_callS (n := 7) (As := [.ref _, .ref _, .ref _, .ref _, .ref _, .int _, .ref _]) (nc_L_allocates X hst ad _ _) ⟨by decide, by decide, by decide +kernel⟩ w_514 w_515 w_502 w_516 rfl rfl (Nat.le_of_ble_eq_true rfl) ⟨by decide, by decide⟩ dL_law_1794 (fun v56 σ57 => ?_)
                    refine k_istore [(20, .int _), (19, .int _), (18, .int _), (17, .int _), (16, .int _), (15, .int _), (14, .int _), (13, .int _), (12, .int _), (11, .int _), (10, .int _), (9, .int _), (0, .ref _), (1, .ref _), (2, .ref _), (3, .ref _), (4, .ref _), (5, .ref _), (6, .ref _), (7, .ref _), (8, .ref _)] rfl (by decide) dL_law_1797 ?_
                    refine k_iload 10 rfl dL_law_1799 ?_
                    refine k_aload_n 14 rfl dL_law_1801 ?_
                    refine k_aload 17 rfl dL_law_1802 ?_
                    refine k_aload 18 rfl dL_law_1804 ?_
                    refine k_aload 20 rfl dL_law_1806 ?_
                    refine k_callS (n := 4) (As := [.ref _, .ref _, .ref _, .ref _]) (nc_L_runs X hst ad _) ⟨by decide, by decide, by decide +kernel⟩ w_606 w_607 w_502 w_608 rfl rfl (Nat.le_of_ble_eq_true rfl) ⟨by decide, by decide⟩ dL_law_1808 (fun v58 σ59 => ?_)
                    refine k_iadd dL_law_1811 ?_
                    refine k_istore [(10, .int _), (20, .int _), (19, .int _), (18, .int _), (17, .int _), (16, .int _), (15, .int _), (14, .int _), (13, .int _), (12, .int _), (11, .int _), (9, .int _), (0, .ref _), (1, .ref _), (2, .ref _), (3, .ref _), (4, .ref _), (5, .ref _), (6, .ref _), (7, .ref _), (8, .ref _)] rfl (by decide) dL_law_1812 ?_
                    refine k_iconst (0) (by decide) dL_law_1814 ?_
                    refine k_istore [(21, .int _), (10, .int _), (20, .int _), (19, .int _), (18, .int _), (17, .int _), (16, .int _), (15, .int _), (14, .int _), (13, .int _), (12, .int _), (11, .int _), (9, .int _), (0, .ref _), (1, .ref _), (2, .ref _), (3, .ref _), (4, .ref _), (5, .ref _), (6, .ref _), (7, .ref _), (8, .ref _)] rfl (by decide) dL_law_1815 ?_
                    exact k_less (by omega) (k_sub [0, 1, 2, 8, 12, 13, 14, 15, 16, 17, 18, 19, 20, 21] rfl (bl_L_law_1817 X hst b L xs (0 + n) ih FU ad _ _ _ _ _ _))
              · refine k_iload 4 rfl dL_law_1272 ?_
                refine k_sipush (256) (by decide) dL_law_1274 ?_
                refine k_idiv (by decide) dL_law_1277 ?_
                refine k_iconst (3) (by decide) dL_law_1278 ?_
                refine k_callS (n := 2) (As := [.int _, .int _]) (nc_L_up X hst ad _ _ _) ⟨by decide, by decide, by decide +kernel⟩ w_582 w_583 w_502 w_584 rfl rfl (Nat.le_of_ble_eq_true rfl) ⟨by decide, by decide⟩ dL_law_1279 (fun v67 σ68 => ?_)
                refine k_istore [(20, .int _), (19, .int _), (18, .int _), (17, .int _), (16, .int _), (15, .int _), (14, .int _), (13, .int _), (12, .int _), (11, .int _), (10, .int _), (9, .int _), (0, .ref _), (1, .ref _), (2, .ref _), (3, .ref _), (4, .ref _), (5, .ref _), (6, .ref _), (7, .ref _), (8, .ref _)] rfl (by decide) dL_law_1282 ?_
                refine k_aload_n 14 rfl dL_law_1284 ?_
                refine k_iload 1 rfl dL_law_1285 ?_
                refine k_gd (fun h25 => ?_)
                refine k_iaload (lvs_71 _) (cell_71 _ _ _ _) h25 dL_law_1287 ?_
                refine k_if_ne 1300 dL_law_1288 (by decide) ?_ ?_
                · refine k_iload 9 rfl dL_law_1291 ?_
                  refine k_if_ne 1300 dL_law_1293 (by decide) ?_ ?_
                  · refine k_iconst (1) (by decide) dL_law_1296 ?_
                    refine k_goto 1301 dL_law_1297 (by decide) ?_
                    exact k_less (by omega) (k_sub [0, 1, 3, 6, 8, 9, 10, 11, 12, 13, 14, 15, 16, 17, 18, 19, 20] rfl (bj_L_law_1301 X hst b L xs (0 + n) ih ad _ _ _ _ _ _ _ _ _ _))
                  · exact k_less (by omega) (k_sub [0, 1, 3, 6, 8, 9, 10, 11, 12, 13, 14, 15, 16, 17, 18, 19, 20] rfl (bj_L_law_1300 X hst b L xs (0 + n) ih ad _ _ _ _ _ _ _ _ _))
                · exact k_less (by omega) (k_sub [0, 1, 3, 6, 8, 9, 10, 11, 12, 13, 14, 15, 16, 17, 18, 19, 20] rfl (bj_L_law_1300 X hst b L xs (0 + n) ih ad _ _ _ _ _ _ _ _ _))
      · refine k_iload 1 rfl dL_law_664 ?_
        refine k_iconst (1) (by decide) dL_law_666 ?_
        refine k_icmp_le 686 dL_law_667 (by decide) ?_ ?_
        · refine k_iload 4 rfl dL_law_686 ?_
          refine k_sipush (256) (by decide) dL_law_688 ?_
          refine k_idiv (by decide) dL_law_691 ?_
          refine k_iconst (4) (by decide) dL_law_692 ?_
          refine k_callS (n := 2) (As := [.int _, .int _]) (nc_L_up X hst ad _ _ _) ⟨by decide, by decide, by decide +kernel⟩ w_582 w_583 w_502 w_584 rfl rfl (Nat.le_of_ble_eq_true rfl) ⟨by decide, by decide⟩ dL_law_693 (fun v73 σ74 => ?_)
          exact k_less (by omega) (k_sub [0, 1, 2, 4, 5, 7, 8, 9, 10, 11, 12, 13, 14, 15, 16, 17, 18, 19] rfl (bj_L_law_696 X hst b L xs (0 + n) ih ad _ _ _ _ _ _ _ _ _ _ _))
        · refine k_iload 4 rfl dL_law_670 ?_
          refine k_sipush (256) (by decide) dL_law_672 ?_
          refine k_idiv (by decide) dL_law_675 ?_
          refine k_bipush (9) (by decide) dL_law_676 ?_
          refine k_callS (n := 2) (As := [.int _, .int _]) (nc_L_up X hst ad _ _ _) ⟨by decide, by decide, by decide +kernel⟩ w_582 w_583 w_502 w_584 rfl rfl (Nat.le_of_ble_eq_true rfl) ⟨by decide, by decide⟩ dL_law_678 (fun v89 σ90 => ?_)
          refine k_iconst (4) (by decide) dL_law_681 ?_
          refine k_isub dL_law_682 ?_
          refine k_goto 696 dL_law_683 (by decide) ?_
          exact k_less (by omega) (k_sub [0, 1, 2, 4, 5, 7, 8, 9, 10, 11, 12, 13, 14, 15, 16, 17, 18, 19] rfl (bj_L_law_696 X hst b L xs (0 + n) ih ad _ _ _ _ _ _ _ _ _ _ _))
theorem bl_L_law_575 (X : Xt) (hst : X.1.stackTraces = false) (b L : Nat) (xs : Nat → Int32) (N : Nat) : ∀ (n : Nat) (ad : Ad) (σ : Wd) (a14 : Int32) (a13 : Int32) (a12 : Int32) (a11 : Int32) (a10 : Int32) (a9 : Int32), Lk X b L xs (100) ad σ 575 [(14, .int a14), (13, .int a13), (12, .int a12), (11, .int a11), (10, .int a10), (9, .int a9), (0, .ref b), (1, .ref (ad 0 0)), (2, .ref (ad 71 0)), (3, .ref (ad 72 0)), (4, .ref (ad 73 0)), (5, .ref (ad 74 0)), (6, .ref (ad 75 0)), (7, .ref (ad 76 0)), (8, .ref (ad 77 0))] [] (l_L_law_575 L xs n σ a14 a13 a12 a11 a10 a9) := by
  intro n
  induction n with
  | zero => intros; exact k_none
  | succ n ih =>
  intro ad σ a14 a13 a12 a11 a10 a9
  rw [l_L_law_575]
  refine k_iload 0 rfl dL_law_575 ?_
  refine k_iconst (4) (by decide) dL_law_577 ?_
  refine k_icmp_ge 596 dL_law_578 (by decide) ?_ ?_
  · refine k_bipush (7) (by decide) dL_law_596 ?_
    refine k_istore [(14, .int _), (13, .int _), (12, .int _), (11, .int _), (10, .int _), (9, .int _), (0, .ref _), (1, .ref _), (2, .ref _), (3, .ref _), (4, .ref _), (5, .ref _), (6, .ref _), (7, .ref _), (8, .ref _)] rfl (by decide) dL_law_598 ?_
    exact k_less (by omega) (k_sub [0, 1, 2, 3, 4, 5, 6, 7, 8, 9, 10, 11, 12, 13, 14] rfl (bl_L_law_600 X hst b L xs 0 100 ad _ _ _ _ _ _ _))
  · refine k_aload 13 rfl dL_law_581 ?_
    refine k_bipush (9) (by decide) dL_law_583 ?_
    refine k_iload 0 rfl dL_law_585 ?_
    refine k_iadd dL_law_587 ?_
    refine k_iconst (-1) (by decide) dL_law_588 ?_
    refine k_gd (fun h34 => ?_)
    refine k_bd ?_
    refine k_iastore (lvs_76 _) (ia_76 _ _ _) h34 dL_law_589 ?_
    refine k_iinc (1) [(14, .int _), (13, .int _), (12, .int _), (11, .int _), (10, .int _), (9, .int _), (0, .ref _), (1, .ref _), (2, .ref _), (3, .ref _), (4, .ref _), (5, .ref _), (6, .ref _), (7, .ref _), (8, .ref _)] 0 rfl (by decide) rfl (by decide) dL_law_590 ?_
    refine k_goto 575 dL_law_593 (by decide) ?_
    exact k_less (by omega) (k_sub [0, 1, 2, 3, 4, 5, 6, 7, 8, 9, 10, 11, 12, 13, 14] rfl (ih ad _ _ _ _ _ _ _))
theorem bj_L_law_526 (X : Xt) (hst : X.1.stackTraces = false) (b L : Nat) (xs : Nat → Int32) (N : Nat) {k233 : Wd → Int32 → Int32 → Int32 → Int32 → Int32 → Int32 → Option Unit} (hk233 : ∀ (ad : Ad) (σ : Wd) (a14 : Int32) (a13 : Int32) (a12 : Int32) (a11 : Int32) (a10 : Int32) (a9 : Int32), Lk X b L xs (N) ad σ 233 [(14, .int a14), (13, .int a13), (12, .int a12), (11, .int a11), (10, .int a10), (9, .int a9), (0, .ref b), (1, .ref (ad 0 0)), (2, .ref (ad 71 0)), (3, .ref (ad 72 0)), (4, .ref (ad 73 0)), (5, .ref (ad 74 0)), (6, .ref (ad 75 0)), (7, .ref (ad 76 0)), (8, .ref (ad 77 0))] [] (k233 σ a14 a13 a12 a11 a10 a9)) (ad : Ad) (σ : Wd) (a13 : Int32) (a14 : Int32) (a12 : Int32) (a11 : Int32) (a10 : Int32) (a9 : Int32) (s0 : Int32) (s1 : Int32) : Lk X b L xs (N) ad σ 526 [(13, .int a13), (14, .int a14), (12, .int a12), (11, .int a11), (10, .int a10), (9, .int a9), (0, .ref b), (1, .ref (ad 0 0)), (2, .ref (ad 71 0)), (3, .ref (ad 72 0)), (4, .ref (ad 73 0)), (5, .ref (ad 74 0)), (6, .ref (ad 75 0)), (7, .ref (ad 76 0)), (8, .ref (ad 77 0))] [.int s0, .int s1, .ref (ad 76 0)] (j_L_law_526 L xs k233 σ a13 a14 a12 a11 a10 a9 s0 s1) := by
  unfold j_L_law_526
  refine k_gd (fun h42 => ?_)
  refine k_bd ?_
  refine k_iastore (lvs_76 _) (ia_76 _ _ _) h42 dL_law_526 ?_
  refine k_aload 13 rfl dL_law_527 ?_
  refine k_iconst (3) (by decide) dL_law_529 ?_
  refine k_iload 1 rfl dL_law_530 ?_
  refine k_iadd dL_law_532 ?_
  refine k_bipush (10) (by decide) dL_law_533 ?_
  refine k_gd (fun h43 => ?_)
  refine k_bd ?_
  refine k_iastore (lvs_76 _) (ia_76 _ _ _) h43 dL_law_535 ?_
  refine k_aload 13 rfl dL_law_536 ?_
  refine k_bipush (6) (by decide) dL_law_538 ?_
  refine k_iload 1 rfl dL_law_540 ?_
  refine k_iadd dL_law_542 ?_
  refine k_iload 1 rfl dL_law_543 ?_
  refine k_if_ne 552 dL_law_545 (by decide) ?_ ?_
  · refine k_iconst (5) (by decide) dL_law_548 ?_
    refine k_goto 565 dL_law_549 (by decide) ?_
    refine k_gd (fun h44 => ?_)
    refine k_bd ?_
    refine k_iastore (lvs_76 _) (ia_76 _ _ _) h44 dL_law_565 ?_
    refine k_iinc (1) [(14, .int _), (13, .int _), (12, .int _), (11, .int _), (10, .int _), (9, .int _), (0, .ref _), (1, .ref _), (2, .ref _), (3, .ref _), (4, .ref _), (5, .ref _), (6, .ref _), (7, .ref _), (8, .ref _)] 1 rfl (by decide) rfl (by decide) dL_law_566 ?_
    refine k_goto 233 dL_law_569 (by decide) ?_
    exact k_less (by omega) (k_sub [0, 1, 2, 3, 4, 5, 6, 7, 8, 9, 10, 11, 12, 13, 14] rfl (hk233 ad _ _ _ _ _ _ _))
  · refine k_iload 1 rfl dL_law_552 ?_
    refine k_iconst (1) (by decide) dL_law_554 ?_
    refine k_icmp_ne 563 dL_law_555 (by decide) ?_ ?_
    · refine k_bipush (20) (by decide) dL_law_558 ?_
      refine k_goto 565 dL_law_560 (by decide) ?_
      refine k_gd (fun h45 => ?_)
      refine k_bd ?_
      refine k_iastore (lvs_76 _) (ia_76 _ _ _) h45 dL_law_565 ?_
      refine k_iinc (1) [(14, .int _), (13, .int _), (12, .int _), (11, .int _), (10, .int _), (9, .int _), (0, .ref _), (1, .ref _), (2, .ref _), (3, .ref _), (4, .ref _), (5, .ref _), (6, .ref _), (7, .ref _), (8, .ref _)] 1 rfl (by decide) rfl (by decide) dL_law_566 ?_
      refine k_goto 233 dL_law_569 (by decide) ?_
      exact k_less (by omega) (k_sub [0, 1, 2, 3, 4, 5, 6, 7, 8, 9, 10, 11, 12, 13, 14] rfl (hk233 ad _ _ _ _ _ _ _))
    · refine k_bipush (60) (by decide) dL_law_563 ?_
      refine k_gd (fun h46 => ?_)
      refine k_bd ?_
      refine k_iastore (lvs_76 _) (ia_76 _ _ _) h46 dL_law_565 ?_
      refine k_iinc (1) [(14, .int _), (13, .int _), (12, .int _), (11, .int _), (10, .int _), (9, .int _), (0, .ref _), (1, .ref _), (2, .ref _), (3, .ref _), (4, .ref _), (5, .ref _), (6, .ref _), (7, .ref _), (8, .ref _)] 1 rfl (by decide) rfl (by decide) dL_law_566 ?_
      refine k_goto 233 dL_law_569 (by decide) ?_
      exact k_less (by omega) (k_sub [0, 1, 2, 3, 4, 5, 6, 7, 8, 9, 10, 11, 12, 13, 14] rfl (hk233 ad _ _ _ _ _ _ _))
theorem bj_L_law_494 (X : Xt) (hst : X.1.stackTraces = false) (b L : Nat) (xs : Nat → Int32) (N : Nat) {k233 : Wd → Int32 → Int32 → Int32 → Int32 → Int32 → Int32 → Option Unit} (hk233 : ∀ (ad : Ad) (σ : Wd) (a14 : Int32) (a13 : Int32) (a12 : Int32) (a11 : Int32) (a10 : Int32) (a9 : Int32), Lk X b L xs (N) ad σ 233 [(14, .int a14), (13, .int a13), (12, .int a12), (11, .int a11), (10, .int a10), (9, .int a9), (0, .ref b), (1, .ref (ad 0 0)), (2, .ref (ad 71 0)), (3, .ref (ad 72 0)), (4, .ref (ad 73 0)), (5, .ref (ad 74 0)), (6, .ref (ad 75 0)), (7, .ref (ad 76 0)), (8, .ref (ad 77 0))] [] (k233 σ a14 a13 a12 a11 a10 a9)) (ad : Ad) (σ : Wd) (a14 : Int32) (a12 : Int32) (a11 : Int32) (a10 : Int32) (a9 : Int32) (s0 : Int32) : Lk X b L xs (N) ad σ 494 [(14, .int a14), (12, .int a12), (11, .int a11), (10, .int a10), (9, .int a9), (0, .ref b), (1, .ref (ad 0 0)), (2, .ref (ad 71 0)), (3, .ref (ad 72 0)), (4, .ref (ad 73 0)), (5, .ref (ad 74 0)), (6, .ref (ad 75 0)), (7, .ref (ad 76 0)), (8, .ref (ad 77 0))] [.int s0] (j_L_law_494 L xs k233 σ a14 a12 a11 a10 a9 s0) := by
  unfold j_L_law_494
  refine k_istore [(13, .int _), (14, .int _), (12, .int _), (11, .int _), (10, .int _), (9, .int _), (0, .ref _), (1, .ref _), (2, .ref _), (3, .ref _), (4, .ref _), (5, .ref _), (6, .ref _), (7, .ref _), (8, .ref _)] rfl (by decide) dL_law_494 ?_
  refine k_aload 13 rfl dL_law_496 ?_
  refine k_iload 1 rfl dL_law_498 ?_
  refine k_iload 1 rfl dL_law_500 ?_
  refine k_if_ne 511 dL_law_502 (by decide) ?_ ?_
  · refine k_sipush (1000) (by decide) dL_law_505 ?_
    refine k_goto 526 dL_law_508 (by decide) ?_
    exact k_less (by omega) (k_sub [0, 1, 2, 3, 4, 5, 6, 7, 8, 9, 10, 11, 12, 13, 14] rfl (bj_L_law_526 X hst b L xs N hk233 ad _ _ _ _ _ _ _ _ _))
  · refine k_iload 1 rfl dL_law_511 ?_
    refine k_iconst (1) (by decide) dL_law_513 ?_
    refine k_icmp_ne 523 dL_law_514 (by decide) ?_ ?_
    · refine k_sipush (3000) (by decide) dL_law_517 ?_
      refine k_goto 526 dL_law_520 (by decide) ?_
      exact k_less (by omega) (k_sub [0, 1, 2, 3, 4, 5, 6, 7, 8, 9, 10, 11, 12, 13, 14] rfl (bj_L_law_526 X hst b L xs N hk233 ad _ _ _ _ _ _ _ _ _))
    · refine k_sipush (9000) (by decide) dL_law_523 ?_
      exact k_less (by omega) (k_sub [0, 1, 2, 3, 4, 5, 6, 7, 8, 9, 10, 11, 12, 13, 14] rfl (bj_L_law_526 X hst b L xs N hk233 ad _ _ _ _ _ _ _ _ _))
theorem bj_L_law_493 (X : Xt) (hst : X.1.stackTraces = false) (b L : Nat) (xs : Nat → Int32) (N : Nat) {k233 : Wd → Int32 → Int32 → Int32 → Int32 → Int32 → Int32 → Option Unit} (hk233 : ∀ (ad : Ad) (σ : Wd) (a14 : Int32) (a13 : Int32) (a12 : Int32) (a11 : Int32) (a10 : Int32) (a9 : Int32), Lk X b L xs (N) ad σ 233 [(14, .int a14), (13, .int a13), (12, .int a12), (11, .int a11), (10, .int a10), (9, .int a9), (0, .ref b), (1, .ref (ad 0 0)), (2, .ref (ad 71 0)), (3, .ref (ad 72 0)), (4, .ref (ad 73 0)), (5, .ref (ad 74 0)), (6, .ref (ad 75 0)), (7, .ref (ad 76 0)), (8, .ref (ad 77 0))] [] (k233 σ a14 a13 a12 a11 a10 a9)) (ad : Ad) (σ : Wd) (a14 : Int32) (a12 : Int32) (a11 : Int32) (a10 : Int32) (a9 : Int32) : Lk X b L xs (N) ad σ 493 [(14, .int a14), (12, .int a12), (11, .int a11), (10, .int a10), (9, .int a9), (0, .ref b), (1, .ref (ad 0 0)), (2, .ref (ad 71 0)), (3, .ref (ad 72 0)), (4, .ref (ad 73 0)), (5, .ref (ad 74 0)), (6, .ref (ad 75 0)), (7, .ref (ad 76 0)), (8, .ref (ad 77 0))] [] (j_L_law_493 L xs k233 σ a14 a12 a11 a10 a9) := by
  unfold j_L_law_493
  refine k_iconst (0) (by decide) dL_law_493 ?_
  exact k_less (by omega) (k_sub [0, 1, 2, 3, 4, 5, 6, 7, 8, 9, 10, 11, 12, 13] rfl (bj_L_law_494 X hst b L xs N hk233 ad _ _ _ _ _ _ _))
theorem bj_L_law_411 (X : Xt) (hst : X.1.stackTraces = false) (b L : Nat) (xs : Nat → Int32) (N : Nat) {k233 : Wd → Int32 → Int32 → Int32 → Int32 → Int32 → Int32 → Option Unit} (hk233 : ∀ (ad : Ad) (σ : Wd) (a14 : Int32) (a13 : Int32) (a12 : Int32) (a11 : Int32) (a10 : Int32) (a9 : Int32), Lk X b L xs (N) ad σ 233 [(14, .int a14), (13, .int a13), (12, .int a12), (11, .int a11), (10, .int a10), (9, .int a9), (0, .ref b), (1, .ref (ad 0 0)), (2, .ref (ad 71 0)), (3, .ref (ad 72 0)), (4, .ref (ad 73 0)), (5, .ref (ad 74 0)), (6, .ref (ad 75 0)), (7, .ref (ad 76 0)), (8, .ref (ad 77 0))] [] (k233 σ a14 a13 a12 a11 a10 a9)) (ad : Ad) (σ : Wd) (a14 : Int32) (a13 : Int32) (a12 : Int32) (a11 : Int32) (a10 : Int32) (a9 : Int32) (s0 : Int32) (s1 : Int32) (s2 : Int32) (s3 : Int32) : Lk X b L xs (N + 1) ad σ 411 [(14, .int a14), (13, .int a13), (12, .int a12), (11, .int a11), (10, .int a10), (9, .int a9), (0, .ref b), (1, .ref (ad 0 0)), (2, .ref (ad 71 0)), (3, .ref (ad 72 0)), (4, .ref (ad 73 0)), (5, .ref (ad 74 0)), (6, .ref (ad 75 0)), (7, .ref (ad 76 0)), (8, .ref (ad 77 0))] [.int s0, .int s1, .int s2, .int s3, .ref (ad 75 0)] (j_L_law_411 L xs k233 σ a14 a13 a12 a11 a10 a9 s0 s1 s2 s3) := by
  unfold j_L_law_411
  refine k_callS (n := 2) (As := [.int _, .int _]) (nc_L_up X hst ad _ _ _) ⟨by decide, by decide, by decide +kernel⟩ w_582 w_583 w_502 w_584 rfl rfl (Nat.le_of_ble_eq_true rfl) ⟨by decide, by decide⟩ dL_law_411 (fun v113 σ114 => ?_)
  refine k_iadd dL_law_414 ?_
  refine k_gd (fun h40 => ?_)
  refine k_bd ?_
  refine k_iastore (lvs_75 _) (ia_75 _ _ _) h40 dL_law_415 ?_
  refine k_aload 12 rfl dL_law_416 ?_
  refine k_bipush (6) (by decide) dL_law_418 ?_
  refine k_iload 0 rfl dL_law_420 ?_
  refine k_imul dL_law_422 ?_
  refine k_iconst (5) (by decide) dL_law_423 ?_
  refine k_iadd dL_law_424 ?_
  refine k_iconst (-1) (by decide) dL_law_425 ?_
  refine k_gd (fun h41 => ?_)
  refine k_bd ?_
  refine k_iastore (lvs_75 _) (ia_75 _ _ _) h41 dL_law_426 ?_
  refine k_iload 1 rfl dL_law_427 ?_
  refine k_if_eq 493 dL_law_429 (by decide) ?_ ?_
  · exact k_less (by omega) (k_sub [0, 2, 3, 4, 5, 6, 7, 8, 9, 10, 11, 12, 13, 14] rfl (bj_L_law_493 X hst b L xs N hk233 ad _ _ _ _ _ _))
  · refine k_aload_n 7 rfl dL_law_432 ?_
    refine k_aload 12 rfl dL_law_433 ?_
    refine k_bipush (6) (by decide) dL_law_435 ?_
    refine k_iload 0 rfl dL_law_437 ?_
    refine k_imul dL_law_439 ?_
    refine k_gd (fun h47 => ?_)
    refine k_iaload (lvs_75 _) (cell_75 _ _ _ _) h47 dL_law_440 ?_
    refine k_aload 12 rfl dL_law_441 ?_
    refine k_bipush (6) (by decide) dL_law_443 ?_
    refine k_iload 0 rfl dL_law_445 ?_
    refine k_imul dL_law_447 ?_
    refine k_iconst (1) (by decide) dL_law_448 ?_
    refine k_iadd dL_law_449 ?_
    refine k_gd (fun h48 => ?_)
    refine k_iaload (lvs_75 _) (cell_75 _ _ _ _) h48 dL_law_450 ?_
    refine k_aload 12 rfl dL_law_451 ?_
    refine k_bipush (6) (by decide) dL_law_453 ?_
    refine k_iload 0 rfl dL_law_455 ?_
    refine k_imul dL_law_457 ?_
    refine k_iconst (2) (by decide) dL_law_458 ?_
    refine k_iadd dL_law_459 ?_
    refine k_gd (fun h49 => ?_)
    refine k_iaload (lvs_75 _) (cell_75 _ _ _ _) h49 dL_law_460 ?_
    refine k_aload 12 rfl dL_law_461 ?_
    refine k_bipush (6) (by decide) dL_law_463 ?_
    refine k_iload 0 rfl dL_law_465 ?_
    refine k_imul dL_law_467 ?_
    refine k_iconst (3) (by decide) dL_law_468 ?_
    refine k_iadd dL_law_469 ?_
    refine k_gd (fun h50 => ?_)
    refine k_iaload (lvs_75 _) (cell_75 _ _ _ _) h50 dL_law_470 ?_
    refine k_aload 12 rfl dL_law_471 ?_
    refine k_bipush (6) (by decide) dL_law_473 ?_
    refine k_iload 0 rfl dL_law_475 ?_
    refine k_imul dL_law_477 ?_
    refine k_iconst (4) (by decide) dL_law_478 ?_
    refine k_iadd dL_law_479 ?_
    refine k_gd (fun h51 => ?_)
    refine k_iaload (lvs_75 _) (cell_75 _ _ _ _) h51 dL_law_480 ?_
    refine k_callVA (n := 5) (As := [.int _, .int _, .int _, .int _, .int _]) (nc_X9_diagram X hst ad _ _ _ _ _ _) ⟨rfl, by decide, by decide, by decide +kernel⟩ w_623 w_624 w_625 w_203 w_626 rfl rfl (Nat.le_of_ble_eq_true rfl) ⟨by decide, by decide⟩ ⟨by decide, by decide⟩ dL_law_481 (fun v122 σ123 a1 hFa1 => ?_)
    rw [← hFa1 0 0 (by decide), ← hFa1 71 0 (by decide), ← hFa1 72 0 (by decide), ← hFa1 73 0 (by decide), ← hFa1 74 0 (by decide), ← hFa1 75 0 (by decide), ← hFa1 76 0 (by decide), ← hFa1 77 0 (by decide)]
    refine k_iload 0 rfl dL_law_484 ?_
    refine k_icmp_ne 493 dL_law_486 (by decide) ?_ ?_
    · refine k_iconst (1) (by decide) dL_law_489 ?_
      refine k_goto 494 dL_law_490 (by decide) ?_
      exact k_less (by omega) (k_sub [0, 2, 3, 4, 5, 6, 7, 8, 9, 10, 11, 12, 13, 14] rfl (bj_L_law_494 X hst b L xs N hk233 a1 _ _ _ _ _ _ _))
    · exact k_less (by omega) (k_sub [0, 2, 3, 4, 5, 6, 7, 8, 9, 10, 11, 12, 13, 14] rfl (bj_L_law_493 X hst b L xs N hk233 a1 _ _ _ _ _ _))
theorem bj_L_law_352 (X : Xt) (hst : X.1.stackTraces = false) (b L : Nat) (xs : Nat → Int32) (N : Nat) {k233 : Wd → Int32 → Int32 → Int32 → Int32 → Int32 → Int32 → Option Unit} (hk233 : ∀ (ad : Ad) (σ : Wd) (a14 : Int32) (a13 : Int32) (a12 : Int32) (a11 : Int32) (a10 : Int32) (a9 : Int32), Lk X b L xs (N) ad σ 233 [(14, .int a14), (13, .int a13), (12, .int a12), (11, .int a11), (10, .int a10), (9, .int a9), (0, .ref b), (1, .ref (ad 0 0)), (2, .ref (ad 71 0)), (3, .ref (ad 72 0)), (4, .ref (ad 73 0)), (5, .ref (ad 74 0)), (6, .ref (ad 75 0)), (7, .ref (ad 76 0)), (8, .ref (ad 77 0))] [] (k233 σ a14 a13 a12 a11 a10 a9)) (ad : Ad) (σ : Wd) (a15 : Int32) (a14 : Int32) (a13 : Int32) (a12 : Int32) (a11 : Int32) (a10 : Int32) (a9 : Int32) (s0 : Int32) (s1 : Int32) (s2 : Int32) (s3 : Int32) : Lk X b L xs (N + 1) ad σ 352 [(15, .int a15), (14, .int a14), (13, .int a13), (12, .int a12), (11, .int a11), (10, .int a10), (9, .int a9), (0, .ref b), (1, .ref (ad 0 0)), (2, .ref (ad 71 0)), (3, .ref (ad 72 0)), (4, .ref (ad 73 0)), (5, .ref (ad 74 0)), (6, .ref (ad 75 0)), (7, .ref (ad 76 0)), (8, .ref (ad 77 0))] [.int s0, .int s1, .int s2, .int s3, .ref (ad 75 0)] (j_L_law_352 L xs k233 σ a15 a14 a13 a12 a11 a10 a9 s0 s1 s2 s3) := by
  unfold j_L_law_352
  refine k_callS (n := 2) (As := [.int _, .int _]) (nc_L_up X hst ad _ _ _) ⟨by decide, by decide, by decide +kernel⟩ w_582 w_583 w_502 w_584 rfl rfl (Nat.le_of_ble_eq_true rfl) ⟨by decide, by decide⟩ dL_law_352 (fun v105 σ106 => ?_)
  refine k_iadd dL_law_355 ?_
  refine k_gd (fun h38 => ?_)
  refine k_bd ?_
  refine k_iastore (lvs_75 _) (ia_75 _ _ _) h38 dL_law_356 ?_
  refine k_aload 13 rfl dL_law_357 ?_
  refine k_bipush (6) (by decide) dL_law_359 ?_
  refine k_iload 1 rfl dL_law_361 ?_
  refine k_imul dL_law_363 ?_
  refine k_iconst (3) (by decide) dL_law_364 ?_
  refine k_iadd dL_law_365 ?_
  refine k_iload 0 rfl dL_law_366 ?_
  refine k_sipush (128) (by decide) dL_law_368 ?_
  refine k_idiv (by decide) dL_law_371 ?_
  refine k_iconst (3) (by decide) dL_law_372 ?_
  refine k_callS (n := 2) (As := [.int _, .int _]) (nc_L_up X hst ad _ _ _) ⟨by decide, by decide, by decide +kernel⟩ w_582 w_583 w_502 w_584 rfl rfl (Nat.le_of_ble_eq_true rfl) ⟨by decide, by decide⟩ dL_law_373 (fun v108 σ109 => ?_)
  refine k_gd (fun h39 => ?_)
  refine k_bd ?_
  refine k_iastore (lvs_75 _) (ia_75 _ _ _) h39 dL_law_376 ?_
  refine k_aload 13 rfl dL_law_377 ?_
  refine k_bipush (6) (by decide) dL_law_379 ?_
  refine k_iload 1 rfl dL_law_381 ?_
  refine k_imul dL_law_383 ?_
  refine k_iconst (4) (by decide) dL_law_384 ?_
  refine k_iadd dL_law_385 ?_
  refine k_iconst (1) (by decide) dL_law_386 ?_
  refine k_iload 0 rfl dL_law_387 ?_
  refine k_sipush (256) (by decide) dL_law_389 ?_
  refine k_idiv (by decide) dL_law_392 ?_
  refine k_iload 0 rfl dL_law_393 ?_
  refine k_bipush (16) (by decide) dL_law_395 ?_
  refine k_idiv (by decide) dL_law_397 ?_
  refine k_iconst (2) (by decide) dL_law_398 ?_
  refine k_callS (n := 2) (As := [.int _, .int _]) (nc_L_up X hst ad _ _ _) ⟨by decide, by decide, by decide +kernel⟩ w_582 w_583 w_502 w_584 rfl rfl (Nat.le_of_ble_eq_true rfl) ⟨by decide, by decide⟩ dL_law_399 (fun v111 σ112 => ?_)
  refine k_if_ne 409 dL_law_402 (by decide) ?_ ?_
  · refine k_iconst (3) (by decide) dL_law_405 ?_
    refine k_goto 411 dL_law_406 (by decide) ?_
    exact k_less (by omega) (k_sub [1, 2, 3, 4, 5, 6, 7, 8, 9, 10, 11, 12, 13, 14, 15] rfl (bj_L_law_411 X hst b L xs N hk233 ad _ _ _ _ _ _ _ _ _ _ _))
  · refine k_bipush (100) (by decide) dL_law_409 ?_
    exact k_less (by omega) (k_sub [1, 2, 3, 4, 5, 6, 7, 8, 9, 10, 11, 12, 13, 14, 15] rfl (bj_L_law_411 X hst b L xs N hk233 ad _ _ _ _ _ _ _ _ _ _ _))
theorem bj_L_law_315 (X : Xt) (hst : X.1.stackTraces = false) (b L : Nat) (xs : Nat → Int32) (N : Nat) {k233 : Wd → Int32 → Int32 → Int32 → Int32 → Int32 → Int32 → Option Unit} (hk233 : ∀ (ad : Ad) (σ : Wd) (a14 : Int32) (a13 : Int32) (a12 : Int32) (a11 : Int32) (a10 : Int32) (a9 : Int32), Lk X b L xs (N) ad σ 233 [(14, .int a14), (13, .int a13), (12, .int a12), (11, .int a11), (10, .int a10), (9, .int a9), (0, .ref b), (1, .ref (ad 0 0)), (2, .ref (ad 71 0)), (3, .ref (ad 72 0)), (4, .ref (ad 73 0)), (5, .ref (ad 74 0)), (6, .ref (ad 75 0)), (7, .ref (ad 76 0)), (8, .ref (ad 77 0))] [] (k233 σ a14 a13 a12 a11 a10 a9)) (ad : Ad) (σ : Wd) (a15 : Int32) (a14 : Int32) (a13 : Int32) (a12 : Int32) (a11 : Int32) (a10 : Int32) (a9 : Int32) (s0 : Int32) (s1 : Int32) : Lk X b L xs (N + 1) ad σ 315 [(15, .int a15), (14, .int a14), (13, .int a13), (12, .int a12), (11, .int a11), (10, .int a10), (9, .int a9), (0, .ref b), (1, .ref (ad 0 0)), (2, .ref (ad 71 0)), (3, .ref (ad 72 0)), (4, .ref (ad 73 0)), (5, .ref (ad 74 0)), (6, .ref (ad 75 0)), (7, .ref (ad 76 0)), (8, .ref (ad 77 0))] [.int s0, .int s1, .ref (ad 75 0)] (j_L_law_315 L xs k233 σ a15 a14 a13 a12 a11 a10 a9 s0 s1) := by
  unfold j_L_law_315
  refine k_gd (fun h37 => ?_)
  refine k_bd ?_
  refine k_iastore (lvs_75 _) (ia_75 _ _ _) h37 dL_law_315 ?_
  refine k_aload 13 rfl dL_law_316 ?_
  refine k_bipush (6) (by decide) dL_law_318 ?_
  refine k_iload 1 rfl dL_law_320 ?_
  refine k_imul dL_law_322 ?_
  refine k_iconst (2) (by decide) dL_law_323 ?_
  refine k_iadd dL_law_324 ?_
  refine k_iconst (1) (by decide) dL_law_325 ?_
  refine k_iload 0 rfl dL_law_326 ?_
  refine k_bipush (64) (by decide) dL_law_328 ?_
  refine k_idiv (by decide) dL_law_330 ?_
  refine k_iload 0 rfl dL_law_331 ?_
  refine k_bipush (8) (by decide) dL_law_333 ?_
  refine k_idiv (by decide) dL_law_335 ?_
  refine k_iconst (3) (by decide) dL_law_336 ?_
  refine k_callS (n := 2) (As := [.int _, .int _]) (nc_L_up X hst ad _ _ _) ⟨by decide, by decide, by decide +kernel⟩ w_582 w_583 w_502 w_584 rfl rfl (Nat.le_of_ble_eq_true rfl) ⟨by decide, by decide⟩ dL_law_337 (fun v103 σ104 => ?_)
  refine k_if_ne 349 dL_law_340 (by decide) ?_ ?_
  · refine k_sipush (2000) (by decide) dL_law_343 ?_
    refine k_goto 352 dL_law_346 (by decide) ?_
    exact k_less (by omega) (k_sub [0, 1, 2, 3, 4, 5, 6, 7, 8, 9, 10, 11, 12, 13, 14, 15] rfl (bj_L_law_352 X hst b L xs N hk233 ad _ _ _ _ _ _ _ _ _ _ _ _))
  · refine k_sipush (400) (by decide) dL_law_349 ?_
    exact k_less (by omega) (k_sub [0, 1, 2, 3, 4, 5, 6, 7, 8, 9, 10, 11, 12, 13, 14, 15] rfl (bj_L_law_352 X hst b L xs N hk233 ad _ _ _ _ _ _ _ _ _ _ _ _))
theorem bj_L_law_279 (X : Xt) (hst : X.1.stackTraces = false) (b L : Nat) (xs : Nat → Int32) (N : Nat) {k233 : Wd → Int32 → Int32 → Int32 → Int32 → Int32 → Int32 → Option Unit} (hk233 : ∀ (ad : Ad) (σ : Wd) (a14 : Int32) (a13 : Int32) (a12 : Int32) (a11 : Int32) (a10 : Int32) (a9 : Int32), Lk X b L xs (N) ad σ 233 [(14, .int a14), (13, .int a13), (12, .int a12), (11, .int a11), (10, .int a10), (9, .int a9), (0, .ref b), (1, .ref (ad 0 0)), (2, .ref (ad 71 0)), (3, .ref (ad 72 0)), (4, .ref (ad 73 0)), (5, .ref (ad 74 0)), (6, .ref (ad 75 0)), (7, .ref (ad 76 0)), (8, .ref (ad 77 0))] [] (k233 σ a14 a13 a12 a11 a10 a9)) (ad : Ad) (σ : Wd) (a15 : Int32) (a14 : Int32) (a13 : Int32) (a12 : Int32) (a11 : Int32) (a10 : Int32) (a9 : Int32) (s0 : Int32) (s1 : Int32) : Lk X b L xs (N + 1) ad σ 279 [(15, .int a15), (14, .int a14), (13, .int a13), (12, .int a12), (11, .int a11), (10, .int a10), (9, .int a9), (0, .ref b), (1, .ref (ad 0 0)), (2, .ref (ad 71 0)), (3, .ref (ad 72 0)), (4, .ref (ad 73 0)), (5, .ref (ad 74 0)), (6, .ref (ad 75 0)), (7, .ref (ad 76 0)), (8, .ref (ad 77 0))] [.int s0, .int s1, .ref (ad 75 0)] (j_L_law_279 L xs k233 σ a15 a14 a13 a12 a11 a10 a9 s0 s1) := by
  unfold j_L_law_279
  refine k_gd (fun h36 => ?_)
  refine k_bd ?_
  refine k_iastore (lvs_75 _) (ia_75 _ _ _) h36 dL_law_279 ?_
  refine k_aload 13 rfl dL_law_280 ?_
  refine k_bipush (6) (by decide) dL_law_282 ?_
  refine k_iload 1 rfl dL_law_284 ?_
  refine k_imul dL_law_286 ?_
  refine k_iconst (1) (by decide) dL_law_287 ?_
  refine k_iadd dL_law_288 ?_
  refine k_iload 0 rfl dL_law_289 ?_
  refine k_bipush (32) (by decide) dL_law_291 ?_
  refine k_idiv (by decide) dL_law_293 ?_
  refine k_iconst (5) (by decide) dL_law_294 ?_
  refine k_callS (n := 2) (As := [.int _, .int _]) (nc_L_up X hst ad _ _ _) ⟨by decide, by decide, by decide +kernel⟩ w_582 w_583 w_502 w_584 rfl rfl (Nat.le_of_ble_eq_true rfl) ⟨by decide, by decide⟩ dL_law_295 (fun v98 σ99 => ?_)
  refine k_iconst (3) (by decide) dL_law_298 ?_
  refine k_icmp_ge 306 dL_law_299 (by decide) ?_ ?_
  · refine k_iload 0 rfl dL_law_306 ?_
    refine k_bipush (64) (by decide) dL_law_308 ?_
    refine k_idiv (by decide) dL_law_310 ?_
    refine k_iconst (3) (by decide) dL_law_311 ?_
    refine k_callS (n := 2) (As := [.int _, .int _]) (nc_L_up X hst ad _ _ _) ⟨by decide, by decide, by decide +kernel⟩ w_582 w_583 w_502 w_584 rfl rfl (Nat.le_of_ble_eq_true rfl) ⟨by decide, by decide⟩ dL_law_312 (fun v100 σ101 => ?_)
    exact k_less (by omega) (k_sub [0, 1, 2, 3, 4, 5, 6, 7, 8, 9, 10, 11, 12, 13, 14, 15] rfl (bj_L_law_315 X hst b L xs N hk233 ad _ _ _ _ _ _ _ _ _ _))
  · refine k_iconst (0) (by decide) dL_law_302 ?_
    refine k_goto 315 dL_law_303 (by decide) ?_
    exact k_less (by omega) (k_sub [0, 1, 2, 3, 4, 5, 6, 7, 8, 9, 10, 11, 12, 13, 14, 15] rfl (bj_L_law_315 X hst b L xs N hk233 ad _ _ _ _ _ _ _ _ _ _))
theorem bl_L_law_233 (X : Xt) (hst : X.1.stackTraces = false) (b L : Nat) (xs : Nat → Int32) (N : Nat) : ∀ (n : Nat) (ad : Ad) (σ : Wd) (a14 : Int32) (a13 : Int32) (a12 : Int32) (a11 : Int32) (a10 : Int32) (a9 : Int32), Lk X b L xs (101 + n) ad σ 233 [(14, .int a14), (13, .int a13), (12, .int a12), (11, .int a11), (10, .int a10), (9, .int a9), (0, .ref b), (1, .ref (ad 0 0)), (2, .ref (ad 71 0)), (3, .ref (ad 72 0)), (4, .ref (ad 73 0)), (5, .ref (ad 74 0)), (6, .ref (ad 75 0)), (7, .ref (ad 76 0)), (8, .ref (ad 77 0))] [] (l_L_law_233 L xs n σ a14 a13 a12 a11 a10 a9) := by
  intro n
  induction n with
  | zero => intros; exact k_none
  | succ n ih =>
  intro ad σ a14 a13 a12 a11 a10 a9
  rw [l_L_law_233]
  show Lk X b L xs (101 + n + 1) _ _ _ _ _ _
  refine k_iload 0 rfl dL_law_233 ?_
  refine k_iconst (3) (by decide) dL_law_235 ?_
  refine k_icmp_ge 572 dL_law_236 (by decide) ?_ ?_
  · refine k_iconst (0) (by decide) dL_law_572 ?_
    refine k_istore [(14, .int _), (13, .int _), (12, .int _), (11, .int _), (10, .int _), (9, .int _), (0, .ref _), (1, .ref _), (2, .ref _), (3, .ref _), (4, .ref _), (5, .ref _), (6, .ref _), (7, .ref _), (8, .ref _)] rfl (by decide) dL_law_573 ?_
    exact k_less (by omega) (k_sub [0, 1, 2, 3, 4, 5, 6, 7, 8, 9, 10, 11, 12, 13, 14] rfl (bl_L_law_575 X hst b L xs 0 FU ad _ _ _ _ _ _ _))
  · refine k_aload_n 6 rfl dL_law_239 ?_
    refine k_iconst (4) (by decide) dL_law_240 ?_
    refine k_iload 0 rfl dL_law_241 ?_
    refine k_iadd dL_law_243 ?_
    refine k_gd (fun h35 => ?_)
    refine k_cell hst h35 w_579 w_580 w_502 w_581 (Nat.le_of_ble_eq_true rfl) dL_law_244 ?_
    refine k_bd ?_
    refine k_istore [(15, .int _), (14, .int _), (13, .int _), (12, .int _), (11, .int _), (10, .int _), (9, .int _), (0, .ref _), (1, .ref _), (2, .ref _), (3, .ref _), (4, .ref _), (5, .ref _), (6, .ref _), (7, .ref _), (8, .ref _)] rfl (by decide) dL_law_247 ?_
    refine k_aload 13 rfl dL_law_249 ?_
    refine k_bipush (6) (by decide) dL_law_251 ?_
    refine k_iload 1 rfl dL_law_253 ?_
    refine k_imul dL_law_255 ?_
    refine k_iload 0 rfl dL_law_256 ?_
    refine k_iconst (5) (by decide) dL_law_258 ?_
    refine k_callS (n := 2) (As := [.int _, .int _]) (nc_L_up X hst ad _ _ _) ⟨by decide, by decide, by decide +kernel⟩ w_582 w_583 w_502 w_584 rfl rfl (Nat.le_of_ble_eq_true rfl) ⟨by decide, by decide⟩ dL_law_259 (fun v93 σ94 => ?_)
    refine k_iconst (3) (by decide) dL_law_262 ?_
    refine k_icmp_ge 270 dL_law_263 (by decide) ?_ ?_
    · refine k_iload 0 rfl dL_law_270 ?_
      refine k_bipush (16) (by decide) dL_law_272 ?_
      refine k_idiv (by decide) dL_law_274 ?_
      refine k_iconst (3) (by decide) dL_law_275 ?_
      refine k_callS (n := 2) (As := [.int _, .int _]) (nc_L_up X hst ad _ _ _) ⟨by decide, by decide, by decide +kernel⟩ w_582 w_583 w_502 w_584 rfl rfl (Nat.le_of_ble_eq_true rfl) ⟨by decide, by decide⟩ dL_law_276 (fun v95 σ96 => ?_)
      exact k_less (by omega) (k_sub [0, 1, 2, 3, 4, 5, 6, 7, 8, 9, 10, 11, 12, 13, 14, 15] rfl (bj_L_law_279 X hst b L xs (101 + n) ih ad _ _ _ _ _ _ _ _ _ _))
    · refine k_iconst (0) (by decide) dL_law_266 ?_
      refine k_goto 279 dL_law_267 (by decide) ?_
      exact k_less (by omega) (k_sub [0, 1, 2, 3, 4, 5, 6, 7, 8, 9, 10, 11, 12, 13, 14, 15] rfl (bj_L_law_279 X hst b L xs (101 + n) ih ad _ _ _ _ _ _ _ _ _ _))
theorem bl_L_law_136 (X : Xt) (hst : X.1.stackTraces = false) (b L : Nat) (xs : Nat → Int32) (N : Nat) {k65 : Wd → Int32 → Int32 → Int32 → Int32 → Int32 → Int32 → Option Unit} (hk65 : ∀ (ad : Ad) (σ : Wd) (a14 : Int32) (a13 : Int32) (a12 : Int32) (a11 : Int32) (a10 : Int32) (a9 : Int32), Lk X b L xs (N) ad σ 65 [(14, .int a14), (13, .int a13), (12, .int a12), (11, .int a11), (10, .int a10), (9, .int a9), (0, .ref b), (1, .ref (ad 0 0)), (2, .ref (ad 71 0)), (3, .ref (ad 72 0)), (4, .ref (ad 73 0)), (5, .ref (ad 74 0)), (6, .ref (ad 75 0)), (7, .ref (ad 76 0)), (8, .ref (ad 77 0))] [] (k65 σ a14 a13 a12 a11 a10 a9)) : ∀ (n : Nat) (ad : Ad) (σ : Wd) (a17 : Int32) (a16 : Int32) (a14 : Int32) (a13 : Int32) (a12 : Int32) (a11 : Int32) (a10 : Int32) (a9 : Int32), Lk X b L xs (N + 1) ad σ 136 [(17, .int a17), (16, .int a16), (14, .int a14), (13, .int a13), (12, .int a12), (11, .int a11), (10, .int a10), (9, .int a9), (0, .ref b), (1, .ref (ad 0 0)), (2, .ref (ad 71 0)), (3, .ref (ad 72 0)), (4, .ref (ad 73 0)), (5, .ref (ad 74 0)), (6, .ref (ad 75 0)), (7, .ref (ad 76 0)), (8, .ref (ad 77 0))] [] (l_L_law_136 L xs k65 n σ a17 a16 a14 a13 a12 a11 a10 a9) := by
  intro n
  induction n with
  | zero => intros; exact k_none
  | succ n ih =>
  intro ad σ a17 a16 a14 a13 a12 a11 a10 a9
  rw [l_L_law_136]
  refine k_iload 0 rfl dL_law_136 ?_
  refine k_bipush (6) (by decide) dL_law_138 ?_
  refine k_icmp_ge 162 dL_law_140 (by decide) ?_ ?_
  · refine k_aload 13 rfl dL_law_162 ?_
    refine k_iconst (4) (by decide) dL_law_164 ?_
    refine k_iload 1 rfl dL_law_165 ?_
    refine k_imul dL_law_167 ?_
    refine k_aload 13 rfl dL_law_168 ?_
    refine k_bipush (12) (by decide) dL_law_170 ?_
    refine k_iload 1 rfl dL_law_172 ?_
    refine k_iadd dL_law_174 ?_
    refine k_gd (fun h55 => ?_)
    refine k_iaload (lvs_74 _) (cell_74 _ _ _ _) h55 dL_law_175 ?_
    refine k_iadd dL_law_176 ?_
    refine k_iload 2 rfl dL_law_177 ?_
    refine k_gd (fun h56 => ?_)
    refine k_bd ?_
    refine k_iastore (lvs_74 _) (ia_74 _ _ _) h56 dL_law_179 ?_
    refine k_aload 13 rfl dL_law_180 ?_
    refine k_bipush (12) (by decide) dL_law_182 ?_
    refine k_iload 1 rfl dL_law_184 ?_
    refine k_iadd dL_law_186 ?_
    refine k_dup2 rfl rfl dL_law_187 ?_
    refine k_iaload (lvs_74 _) (cell_74 _ _ _ _) h55 dL_law_188 ?_
    refine k_iconst (1) (by decide) dL_law_189 ?_
    refine k_iadd dL_law_190 ?_
    refine k_bd ?_
    refine k_iastore (lvs_74 _) (ia_74 _ _ _) h55 dL_law_191 ?_
    refine k_iload 3 rfl dL_law_192 ?_
    refine k_if_eq 221 dL_law_194 (by decide) ?_ ?_
    · refine k_iconst (0) (by decide) dL_law_221 ?_
      refine k_istore [(13, .int _), (17, .int _), (16, .int _), (14, .int _), (12, .int _), (11, .int _), (10, .int _), (9, .int _), (0, .ref _), (1, .ref _), (2, .ref _), (3, .ref _), (4, .ref _), (5, .ref _), (6, .ref _), (7, .ref _), (8, .ref _)] rfl (by decide) dL_law_222 ?_
      refine k_iinc (1) [(14, .int _), (13, .int _), (17, .int _), (16, .int _), (12, .int _), (11, .int _), (10, .int _), (9, .int _), (0, .ref _), (1, .ref _), (2, .ref _), (3, .ref _), (4, .ref _), (5, .ref _), (6, .ref _), (7, .ref _), (8, .ref _)] 3 rfl (by decide) rfl (by decide) dL_law_224 ?_
      refine k_goto 65 dL_law_227 (by decide) ?_
      exact k_less (by omega) (k_sub [0, 1, 4, 5, 6, 7, 8, 9, 10, 11, 12, 13, 14, 15, 16] rfl (hk65 ad _ _ _ _ _ _ _))
    · refine k_aload_n 9 rfl dL_law_197 ?_
      refine k_iload 1 rfl dL_law_198 ?_
      refine k_aload_n 10 rfl dL_law_200 ?_
      refine k_bipush (16) (by decide) dL_law_201 ?_
      refine k_iload 2 rfl dL_law_203 ?_
      refine k_imul dL_law_205 ?_
      refine k_iconst (1) (by decide) dL_law_206 ?_
      refine k_iadd dL_law_207 ?_
      refine k_gd (fun h57 => ?_)
      refine k_iaload (lvs_71 _) (cell_71 _ _ _ _) h57 dL_law_208 ?_
      refine k_callVA (n := 2) (As := [.int _, .int _]) (nc_X9_unit X hst ad _ _ _) ⟨rfl, by decide, by decide, by decide +kernel⟩ w_627 w_628 w_629 w_203 w_630 rfl rfl (Nat.le_of_ble_eq_true rfl) ⟨by decide, by decide⟩ ⟨by decide, by decide⟩ dL_law_209 (fun v135 σ136 a1 hFa1 => ?_)
      rw [← hFa1 0 0 (by decide), ← hFa1 71 0 (by decide), ← hFa1 72 0 (by decide), ← hFa1 73 0 (by decide), ← hFa1 74 0 (by decide), ← hFa1 75 0 (by decide), ← hFa1 76 0 (by decide), ← hFa1 77 0 (by decide)]
      refine k_iload 2 rfl dL_law_212 ?_
      refine k_icmp_ne 221 dL_law_214 (by decide) ?_ ?_
      · refine k_iconst (1) (by decide) dL_law_217 ?_
        refine k_goto 222 dL_law_218 (by decide) ?_
        refine k_istore [(13, .int _), (17, .int _), (16, .int _), (14, .int _), (12, .int _), (11, .int _), (10, .int _), (9, .int _), (0, .ref _), (1, .ref _), (2, .ref _), (3, .ref _), (4, .ref _), (5, .ref _), (6, .ref _), (7, .ref _), (8, .ref _)] rfl (by decide) dL_law_222 ?_
        refine k_iinc (1) [(14, .int _), (13, .int _), (17, .int _), (16, .int _), (12, .int _), (11, .int _), (10, .int _), (9, .int _), (0, .ref _), (1, .ref _), (2, .ref _), (3, .ref _), (4, .ref _), (5, .ref _), (6, .ref _), (7, .ref _), (8, .ref _)] 3 rfl (by decide) rfl (by decide) dL_law_224 ?_
        refine k_goto 65 dL_law_227 (by decide) ?_
        exact k_less (by omega) (k_sub [0, 1, 4, 5, 6, 7, 8, 9, 10, 11, 12, 13, 14, 15, 16] rfl (hk65 a1 _ _ _ _ _ _ _))
      · refine k_iconst (0) (by decide) dL_law_221 ?_
        refine k_istore [(13, .int _), (17, .int _), (16, .int _), (14, .int _), (12, .int _), (11, .int _), (10, .int _), (9, .int _), (0, .ref _), (1, .ref _), (2, .ref _), (3, .ref _), (4, .ref _), (5, .ref _), (6, .ref _), (7, .ref _), (8, .ref _)] rfl (by decide) dL_law_222 ?_
        refine k_iinc (1) [(14, .int _), (13, .int _), (17, .int _), (16, .int _), (12, .int _), (11, .int _), (10, .int _), (9, .int _), (0, .ref _), (1, .ref _), (2, .ref _), (3, .ref _), (4, .ref _), (5, .ref _), (6, .ref _), (7, .ref _), (8, .ref _)] 3 rfl (by decide) rfl (by decide) dL_law_224 ?_
        refine k_goto 65 dL_law_227 (by decide) ?_
        exact k_less (by omega) (k_sub [0, 1, 4, 5, 6, 7, 8, 9, 10, 11, 12, 13, 14, 15, 16] rfl (hk65 a1 _ _ _ _ _ _ _))
  · refine k_aload_n 10 rfl dL_law_143 ?_
    refine k_bipush (16) (by decide) dL_law_144 ?_
    refine k_iload 2 rfl dL_law_146 ?_
    refine k_imul dL_law_148 ?_
    refine k_iload 0 rfl dL_law_149 ?_
    refine k_iadd dL_law_151 ?_
    refine k_sipush (900) (by decide) dL_law_152 ?_
    refine k_gd (fun h58 => ?_)
    refine k_bd ?_
    refine k_iastore (lvs_71 _) (ia_71 _ _ _) h58 dL_law_155 ?_
    refine k_iinc (1) [(17, .int _), (16, .int _), (14, .int _), (13, .int _), (12, .int _), (11, .int _), (10, .int _), (9, .int _), (0, .ref _), (1, .ref _), (2, .ref _), (3, .ref _), (4, .ref _), (5, .ref _), (6, .ref _), (7, .ref _), (8, .ref _)] 0 rfl (by decide) rfl (by decide) dL_law_156 ?_
    refine k_goto 136 dL_law_159 (by decide) ?_
    exact k_less (by omega) (k_sub [0, 1, 2, 3, 4, 5, 6, 7, 8, 9, 10, 11, 12, 13, 14, 15, 16] rfl (ih ad _ _ _ _ _ _ _ _ _))
theorem bj_L_law_102 (X : Xt) (hst : X.1.stackTraces = false) (b L : Nat) (xs : Nat → Int32) (N : Nat) {k65 : Wd → Int32 → Int32 → Int32 → Int32 → Int32 → Int32 → Option Unit} (hk65 : ∀ (ad : Ad) (σ : Wd) (a14 : Int32) (a13 : Int32) (a12 : Int32) (a11 : Int32) (a10 : Int32) (a9 : Int32), Lk X b L xs (N) ad σ 65 [(14, .int a14), (13, .int a13), (12, .int a12), (11, .int a11), (10, .int a10), (9, .int a9), (0, .ref b), (1, .ref (ad 0 0)), (2, .ref (ad 71 0)), (3, .ref (ad 72 0)), (4, .ref (ad 73 0)), (5, .ref (ad 74 0)), (6, .ref (ad 75 0)), (7, .ref (ad 76 0)), (8, .ref (ad 77 0))] [] (k65 σ a14 a13 a12 a11 a10 a9)) (ad : Ad) (σ : Wd) (a15 : Int32) (a14 : Int32) (a13 : Int32) (a12 : Int32) (a11 : Int32) (a10 : Int32) (a9 : Int32) (s0 : Int32) : Lk X b L xs (N + 1) ad σ 102 [(15, .int a15), (14, .int a14), (13, .int a13), (12, .int a12), (11, .int a11), (10, .int a10), (9, .int a9), (0, .ref b), (1, .ref (ad 0 0)), (2, .ref (ad 71 0)), (3, .ref (ad 72 0)), (4, .ref (ad 73 0)), (5, .ref (ad 74 0)), (6, .ref (ad 75 0)), (7, .ref (ad 76 0)), (8, .ref (ad 77 0))] [.int s0] (j_L_law_102 L xs k65 σ a15 a14 a13 a12 a11 a10 a9 s0) := by
  unfold j_L_law_102
  refine k_istore [(16, .int _), (15, .int _), (14, .int _), (13, .int _), (12, .int _), (11, .int _), (10, .int _), (9, .int _), (0, .ref _), (1, .ref _), (2, .ref _), (3, .ref _), (4, .ref _), (5, .ref _), (6, .ref _), (7, .ref _), (8, .ref _)] rfl (by decide) dL_law_102 ?_
  refine k_aload_n 10 rfl dL_law_104 ?_
  refine k_bipush (16) (by decide) dL_law_105 ?_
  refine k_iload 2 rfl dL_law_107 ?_
  refine k_imul dL_law_109 ?_
  refine k_iload 0 rfl dL_law_110 ?_
  refine k_gd (fun h53 => ?_)
  refine k_bd ?_
  refine k_iastore (lvs_71 _) (ia_71 _ _ _) h53 dL_law_112 ?_
  refine k_aload_n 10 rfl dL_law_113 ?_
  refine k_bipush (16) (by decide) dL_law_114 ?_
  refine k_iload 2 rfl dL_law_116 ?_
  refine k_imul dL_law_118 ?_
  refine k_iconst (1) (by decide) dL_law_119 ?_
  refine k_iadd dL_law_120 ?_
  refine k_iload 1 rfl dL_law_121 ?_
  refine k_bipush (16) (by decide) dL_law_123 ?_
  refine k_idiv (by decide) dL_law_125 ?_
  refine k_sipush (3000) (by decide) dL_law_126 ?_
  refine k_callS (n := 2) (As := [.int _, .int _]) (nc_L_up X hst ad _ _ _) ⟨by decide, by decide, by decide +kernel⟩ w_582 w_583 w_502 w_584 rfl rfl (Nat.le_of_ble_eq_true rfl) ⟨by decide, by decide⟩ dL_law_129 (fun v130 σ131 => ?_)
  refine k_gd (fun h54 => ?_)
  refine k_bd ?_
  refine k_iastore (lvs_71 _) (ia_71 _ _ _) h54 dL_law_132 ?_
  refine k_iconst (2) (by decide) dL_law_133 ?_
  refine k_istore [(17, .int _), (16, .int _), (15, .int _), (14, .int _), (13, .int _), (12, .int _), (11, .int _), (10, .int _), (9, .int _), (0, .ref _), (1, .ref _), (2, .ref _), (3, .ref _), (4, .ref _), (5, .ref _), (6, .ref _), (7, .ref _), (8, .ref _)] rfl (by decide) dL_law_134 ?_
  exact k_less (by omega) (k_sub [0, 1, 3, 4, 5, 6, 7, 8, 9, 10, 11, 12, 13, 14, 15, 16, 17] rfl (bl_L_law_136 X hst b L xs N hk65 FU ad _ _ _ _ _ _ _ _ _))
theorem bl_L_law_65 (X : Xt) (hst : X.1.stackTraces = false) (b L : Nat) (xs : Nat → Int32) (N : Nat) : ∀ (n : Nat) (ad : Ad) (σ : Wd) (a14 : Int32) (a13 : Int32) (a12 : Int32) (a11 : Int32) (a10 : Int32) (a9 : Int32), Lk X b L xs (120 + n) ad σ 65 [(14, .int a14), (13, .int a13), (12, .int a12), (11, .int a11), (10, .int a10), (9, .int a9), (0, .ref b), (1, .ref (ad 0 0)), (2, .ref (ad 71 0)), (3, .ref (ad 72 0)), (4, .ref (ad 73 0)), (5, .ref (ad 74 0)), (6, .ref (ad 75 0)), (7, .ref (ad 76 0)), (8, .ref (ad 77 0))] [] (l_L_law_65 L xs n σ a14 a13 a12 a11 a10 a9) := by
  intro n
  induction n with
  | zero => intros; exact k_none
  | succ n ih =>
  intro ad σ a14 a13 a12 a11 a10 a9
  rw [l_L_law_65]
  show Lk X b L xs (120 + n + 1) _ _ _ _ _ _
  refine k_iload 0 rfl dL_law_65 ?_
  refine k_iconst (4) (by decide) dL_law_67 ?_
  refine k_icmp_ge 230 dL_law_68 (by decide) ?_ ?_
  · refine k_iconst (0) (by decide) dL_law_230 ?_
    refine k_istore [(14, .int _), (13, .int _), (12, .int _), (11, .int _), (10, .int _), (9, .int _), (0, .ref _), (1, .ref _), (2, .ref _), (3, .ref _), (4, .ref _), (5, .ref _), (6, .ref _), (7, .ref _), (8, .ref _)] rfl (by decide) dL_law_231 ?_
    exact k_less (by omega) (k_sub [0, 1, 2, 3, 4, 5, 6, 7, 8, 9, 10, 11, 12, 13, 14] rfl (bl_L_law_233 X hst b L xs 0 8 ad _ _ _ _ _ _ _))
  · refine k_aload_n 6 rfl dL_law_71 ?_
    refine k_iload 0 rfl dL_law_72 ?_
    refine k_gd (fun h52 => ?_)
    refine k_cell hst h52 w_579 w_580 w_502 w_581 (Nat.le_of_ble_eq_true rfl) dL_law_74 ?_
    refine k_bd ?_
    refine k_istore [(15, .int _), (14, .int _), (13, .int _), (12, .int _), (11, .int _), (10, .int _), (9, .int _), (0, .ref _), (1, .ref _), (2, .ref _), (3, .ref _), (4, .ref _), (5, .ref _), (6, .ref _), (7, .ref _), (8, .ref _)] rfl (by decide) dL_law_77 ?_
    refine k_iload 0 rfl dL_law_79 ?_
    refine k_iconst (4) (by decide) dL_law_81 ?_
    refine k_callS (n := 2) (As := [.int _, .int _]) (nc_L_up X hst ad _ _ _) ⟨by decide, by decide, by decide +kernel⟩ w_582 w_583 w_502 w_584 rfl rfl (Nat.le_of_ble_eq_true rfl) ⟨by decide, by decide⟩ dL_law_82 (fun v125 σ126 => ?_)
    refine k_iconst (3) (by decide) dL_law_85 ?_
    refine k_icmp_ne 101 dL_law_86 (by decide) ?_ ?_
    · refine k_iload 0 rfl dL_law_89 ?_
      refine k_bipush (16) (by decide) dL_law_91 ?_
      refine k_idiv (by decide) dL_law_93 ?_
      refine k_iconst (3) (by decide) dL_law_94 ?_
      refine k_callS (n := 2) (As := [.int _, .int _]) (nc_L_up X hst ad _ _ _) ⟨by decide, by decide, by decide +kernel⟩ w_582 w_583 w_502 w_584 rfl rfl (Nat.le_of_ble_eq_true rfl) ⟨by decide, by decide⟩ dL_law_95 (fun v127 σ128 => ?_)
      refine k_goto 102 dL_law_98 (by decide) ?_
      exact k_less (by omega) (k_sub [0, 1, 2, 3, 4, 5, 6, 7, 8, 9, 10, 11, 12, 13, 14, 15] rfl (bj_L_law_102 X hst b L xs (120 + n) ih ad _ _ _ _ _ _ _ _ _))
    · refine k_iconst (0) (by decide) dL_law_101 ?_
      exact k_less (by omega) (k_sub [0, 1, 2, 3, 4, 5, 6, 7, 8, 9, 10, 11, 12, 13, 14, 15] rfl (bj_L_law_102 X hst b L xs (120 + n) ih ad _ _ _ _ _ _ _ _ _))
theorem law_walk (X : Xt) (hst : X.1.stackTraces = false) (b L : Nat) (xs : Nat → Int32) (ad : Ad) (σ : Wd) : Lk X b L xs (200) ad σ 47 [(0, .ref b), (1, .ref (ad 0 0)), (2, .ref (ad 71 0)), (3, .ref (ad 72 0)), (4, .ref (ad 73 0)), (5, .ref (ad 74 0)), (6, .ref (ad 75 0)), (7, .ref (ad 76 0)), (8, .ref (ad 77 0))] [] (f_law L xs σ) := by
  unfold f_law
  refine k_iconst (0) (by decide) dL_law_47 ?_
  refine k_istore [(9, .int _), (0, .ref _), (1, .ref _), (2, .ref _), (3, .ref _), (4, .ref _), (5, .ref _), (6, .ref _), (7, .ref _), (8, .ref _)] rfl (by decide) dL_law_48 ?_
  refine k_iconst (0) (by decide) dL_law_50 ?_
  refine k_istore [(10, .int _), (9, .int _), (0, .ref _), (1, .ref _), (2, .ref _), (3, .ref _), (4, .ref _), (5, .ref _), (6, .ref _), (7, .ref _), (8, .ref _)] rfl (by decide) dL_law_51 ?_
  refine k_iconst (0) (by decide) dL_law_53 ?_
  refine k_istore [(11, .int _), (10, .int _), (9, .int _), (0, .ref _), (1, .ref _), (2, .ref _), (3, .ref _), (4, .ref _), (5, .ref _), (6, .ref _), (7, .ref _), (8, .ref _)] rfl (by decide) dL_law_54 ?_
  refine k_iconst (0) (by decide) dL_law_56 ?_
  refine k_istore [(12, .int _), (11, .int _), (10, .int _), (9, .int _), (0, .ref _), (1, .ref _), (2, .ref _), (3, .ref _), (4, .ref _), (5, .ref _), (6, .ref _), (7, .ref _), (8, .ref _)] rfl (by decide) dL_law_57 ?_
  refine k_iconst (1) (by decide) dL_law_59 ?_
  refine k_istore [(13, .int _), (12, .int _), (11, .int _), (10, .int _), (9, .int _), (0, .ref _), (1, .ref _), (2, .ref _), (3, .ref _), (4, .ref _), (5, .ref _), (6, .ref _), (7, .ref _), (8, .ref _)] rfl (by decide) dL_law_60 ?_
  refine k_iconst (0) (by decide) dL_law_62 ?_
  refine k_istore [(14, .int _), (13, .int _), (12, .int _), (11, .int _), (10, .int _), (9, .int _), (0, .ref _), (1, .ref _), (2, .ref _), (3, .ref _), (4, .ref _), (5, .ref _), (6, .ref _), (7, .ref _), (8, .ref _)] rfl (by decide) dL_law_63 ?_
  exact k_less (by omega) (k_sub [0, 1, 2, 3, 4, 5, 6, 7, 8, 9, 10, 11, 12, 13, 14] rfl (bl_L_law_65 X hst b L xs 0 8 ad _ _ _ _ _ _ _))
