section KBK2
variable {X : Xt} {b L : Nat} {xs : Nat → Int32} {N : Nat} {ad : Ad} {σ : Wd} {pc : Nat} {lv : List (Nat × Value)} {st : List Value} {f f1 f2 : Option Unit}
theorem k_irem {x y : Int32} (hne : ¬ y = 0) (hd : decode cL_law pc = .ok (.irem, 1)) (k : Lk X b L xs N ad σ (pc + 1) lv (.int (x - x / y * y) :: st) f) : Lk X b L xs N ad σ pc lv (.int y :: .int x :: st) f :=
  fun h cs g1 g2 p e s m below meth c B H locs ls hH hS hl => lv_irem B.1 B.2.1 hd hne (k h cs g1 g2 p e s m below meth c B H locs ls hH hS hl)
end KBK2
theorem w_579 : Cond.methodLink RL 84 yL_cell ∈ G_ := gt3 218 (by decide +kernel) (by decide +kernel)
theorem w_580 : Cond.static yL_cell ∈ G_ := gt3 219 (by decide +kernel) (by decide +kernel)
theorem w_581 : Cond.code yL_cell cL_cell 2 (some (.int)) ∈ G_ := gt3 220 (by decide +kernel) (by decide +kernel)
theorem w_582 : Cond.methodLink RL 88 yL_up ∈ G_ := gt3 215 (by decide +kernel) (by decide +kernel)
theorem w_583 : Cond.static yL_up ∈ G_ := gt3 216 (by decide +kernel) (by decide +kernel)
theorem w_584 : Cond.code yL_up cL_up 2 (some (.int)) ∈ G_ := gt3 217 (by decide +kernel) (by decide +kernel)
theorem w_585 : Cond.methodLink RL 102 yX9_list ∈ G_ := gt2 234 (by decide +kernel) (by decide +kernel)
theorem w_586 : Cond.instanceMethod yX9_list ∈ G_ := gt2 235 (by decide +kernel) (by decide +kernel)
theorem w_587 : Cond.selects RX9 yX9_list yX9_list ∈ G_ := gt2 236 (by decide +kernel) (by decide +kernel)
theorem w_588 : Cond.code yX9_list cX9_list 6 (some (.int)) ∈ G_ := gt2 237 (by decide +kernel) (by decide +kernel)
theorem w_589 : Cond.methodLink RL 133 yL_alike ∈ G_ := gt4 88 (by decide +kernel) (by decide +kernel)
theorem w_590 : Cond.static yL_alike ∈ G_ := gt4 89 (by decide +kernel) (by decide +kernel)
theorem w_591 : Cond.code yL_alike cL_alike 15 (some (.boolean)) ∈ G_ := gt4 90 (by rfl) (by decide +kernel)
theorem w_592 : Cond.methodLink RL 105 yX9_exam ∈ G_ := gt2 218 (by decide +kernel) (by decide +kernel)
theorem w_593 : Cond.instanceMethod yX9_exam ∈ G_ := gt2 219 (by decide +kernel) (by decide +kernel)
theorem w_594 : Cond.selects RX9 yX9_exam yX9_exam ∈ G_ := gt2 220 (by decide +kernel) (by decide +kernel)
theorem w_595 : Cond.code yX9_exam cX9_exam 6 (some (.int)) ∈ G_ := gt2 221 (by decide +kernel) (by decide +kernel)
theorem w_596 : Cond.methodLink RL 108 yX9_pin ∈ G_ := gt3 3 (by decide +kernel) (by decide +kernel)
theorem w_597 : Cond.instanceMethod yX9_pin ∈ G_ := gt3 4 (by decide +kernel) (by decide +kernel)
theorem w_598 : Cond.selects RX9 yX9_pin yX9_pin ∈ G_ := gt3 5 (by decide +kernel) (by decide +kernel)
theorem w_599 : Cond.code yX9_pin cX9_pin 5 (some (.int)) ∈ G_ := gt3 6 (by decide +kernel) (by decide +kernel)
theorem w_600 : Cond.constant RL 115 (100000) ∈ G_ := gt4 185 (by decide +kernel) (by decide +kernel)
theorem w_601 : Cond.methodLink RL 111 yL_shop ∈ G_ := gt4 0 (by decide +kernel) (by decide +kernel)
theorem w_602 : Cond.static yL_shop ∈ G_ := gt4 1 (by decide +kernel) (by decide +kernel)
theorem w_603 : Cond.methodLink RL 116 yL_remove ∈ G_ := gt3 237 (by decide +kernel) (by decide +kernel)
theorem w_604 : Cond.static yL_remove ∈ G_ := gt3 238 (by decide +kernel) (by decide +kernel)
theorem w_605 : Cond.code yL_remove cL_remove 6 none ∈ G_ := gt3 239 (by decide +kernel) (by decide +kernel)
theorem w_606 : Cond.methodLink RL 120 yL_runs ∈ G_ := gt3 231 (by decide +kernel) (by decide +kernel)
theorem w_607 : Cond.static yL_runs ∈ G_ := gt3 232 (by decide +kernel) (by decide +kernel)
theorem w_608 : Cond.code yL_runs cL_runs 10 (some (.int)) ∈ G_ := gt3 233 (by decide +kernel) (by decide +kernel)
theorem w_609 : Cond.methodLink RL 124 yX9_day ∈ G_ := gt3 26 (by decide +kernel) (by decide +kernel)
theorem w_610 : Cond.instanceMethod yX9_day ∈ G_ := gt3 27 (by decide +kernel) (by decide +kernel)
theorem w_611 : Cond.selects RX9 yX9_day yX9_day ∈ G_ := gt3 28 (by decide +kernel) (by decide +kernel)
theorem w_612 : Cond.code yX9_day cX9_day 2 (some (.int)) ∈ G_ := gt3 29 (by decide +kernel) (by decide +kernel)
theorem w_613 : Cond.methodLink RL 127 yX9_shunts ∈ G_ := gt3 203 (by decide +kernel) (by decide +kernel)
theorem w_614 : Cond.instanceMethod yX9_shunts ∈ G_ := gt3 204 (by decide +kernel) (by decide +kernel)
theorem w_615 : Cond.selects RX9 yX9_shunts yX9_shunts ∈ G_ := gt3 205 (by decide +kernel) (by decide +kernel)
theorem w_616 : Cond.code yX9_shunts cX9_shunts 1 (some (.int)) ∈ G_ := gt3 206 (by decide +kernel) (by decide +kernel)
theorem w_617 : Cond.methodLink RL 130 yX9_ran ∈ G_ := gt3 207 (by decide +kernel) (by decide +kernel)
theorem w_618 : Cond.instanceMethod yX9_ran ∈ G_ := gt3 208 (by decide +kernel) (by decide +kernel)
theorem w_619 : Cond.selects RX9 yX9_ran yX9_ran ∈ G_ := gt3 209 (by decide +kernel) (by decide +kernel)
theorem w_620 : Cond.code yX9_ran cX9_ran 3 (some (.int)) ∈ G_ := gt3 210 (by decide +kernel) (by decide +kernel)
theorem w_621 : Cond.methodLink RL 98 yL_told ∈ G_ := gt4 52 (by decide +kernel) (by decide +kernel)
theorem w_622 : Cond.static yL_told ∈ G_ := gt4 53 (by decide +kernel) (by decide +kernel)
theorem w_623 : Cond.methodLink RL 94 yX9_diagram ∈ G_ := gt2 177 (by decide +kernel) (by decide +kernel)
theorem w_624 : Cond.instanceMethod yX9_diagram ∈ G_ := gt2 178 (by decide +kernel) (by decide +kernel)
theorem w_625 : Cond.selects RX9 yX9_diagram yX9_diagram ∈ G_ := gt2 179 (by decide +kernel) (by decide +kernel)
theorem w_626 : Cond.code yX9_diagram cX9_diagram 7 (some (.int)) ∈ G_ := gt2 180 (by decide +kernel) (by decide +kernel)
theorem w_627 : Cond.methodLink RL 91 yX9_unit ∈ G_ := gt1 199 (by decide +kernel) (by decide +kernel)
theorem w_628 : Cond.instanceMethod yX9_unit ∈ G_ := gt1 200 (by decide +kernel) (by decide +kernel)
theorem w_629 : Cond.selects RX9 yX9_unit yX9_unit ∈ G_ := gt1 201 (by decide +kernel) (by decide +kernel)
theorem w_630 : Cond.code yX9_unit cX9_unit 5 (some (.int)) ∈ G_ := gt1 202 (by decide +kernel) (by decide +kernel)
def j_L_law_1937 (L : Nat) (xs : Nat → Int32) (k600 : Wd → Int32 → Int32 → Int32 → Int32 → Int32 → Int32 → Option Unit) (σ : Wd) (a13 : Int32) (a14 : Int32) (a12 : Int32) (a11 : Int32) (a10 : Int32) (a9 : Int32) : Option Unit :=
  if a13 = 0 then
    k600 σ (a14 + 1) (0 : Int32) a12 a11 a10 a9
  else
    bu (f_L_alike σ a9) fun v16 σ17 =>
    if v16 = 0 then
      k600 σ17 (a14 + 1) (0 : Int32) a12 a11 a10 a9
    else
      k600 σ17 (a14 + 1) (1 : Int32) a12 a11 a10 a9
def j_L_law_1001 (L : Nat) (xs : Nat → Int32) (k600 : Wd → Int32 → Int32 → Int32 → Int32 → Int32 → Int32 → Option Unit) (σ : Wd) (a21 : Int32) (a20 : Int32) (a18 : Int32) (a14 : Int32) (a12 : Int32) (a11 : Int32) (a10 : Int32) (a9 : Int32) (s0 : Int32) : Option Unit :=
  gd (inb ((9 : Int32) + a18) 17) <|
  bd (wr σ 76 0 ((9 : Int32) + a18).toNatClampNeg a20) fun σ14 =>
  gd (inb ((13 : Int32) + a18) 17) <|
  bd (wr σ14 76 0 ((13 : Int32) + a18).toNatClampNeg a21) fun σ15 =>
  j_L_law_1937 L xs k600 σ15 s0 a14 a12 a11 a10 a9
def j_L_law_973 (L : Nat) (xs : Nat → Int32) (k600 : Wd → Int32 → Int32 → Int32 → Int32 → Int32 → Int32 → Option Unit) (σ : Wd) (a20 : Int32) (a18 : Int32) (a14 : Int32) (a12 : Int32) (a11 : Int32) (a10 : Int32) (a9 : Int32) (s0 : Int32) : Option Unit :=
  bu (f_X9_list σ a18 a20 s0) fun v12 σ13 =>
  gd (inb ((9 : Int32) + a18) 17) <|
  if v12 = (σ13.1 76 0 ((9 : Int32) + a18).toNatClampNeg) then
    j_L_law_1001 L xs k600 σ13 s0 a20 a18 a14 a12 a11 a10 a9 (1 : Int32)
  else
    j_L_law_1001 L xs k600 σ13 s0 a20 a18 a14 a12 a11 a10 a9 (0 : Int32)
def j_L_law_939 (L : Nat) (xs : Nat → Int32) (k600 : Wd → Int32 → Int32 → Int32 → Int32 → Int32 → Int32 → Option Unit) (σ : Wd) (a18 : Int32) (a15 : Int32) (a14 : Int32) (a12 : Int32) (a11 : Int32) (a10 : Int32) (a9 : Int32) (s0 : Int32) : Option Unit :=
  if 0 ≤ s0 then
    bu (f_L_up σ (a15 / (512 : Int32)) (3 : Int32)) fun v10 σ11 =>
    j_L_law_973 L xs k600 σ11 s0 a18 a14 a12 a11 a10 a9 v10
  else
    bu (f_L_up σ (a15 / (512 : Int32)) (99 : Int32)) fun v18 σ19 =>
    j_L_law_973 L xs k600 σ19 s0 a18 a14 a12 a11 a10 a9 (v18 - (50 : Int32))
def j_L_law_1178 (L : Nat) (xs : Nat → Int32) (k600 : Wd → Int32 → Int32 → Int32 → Int32 → Int32 → Int32 → Option Unit) (σ : Wd) (a14 : Int32) (a12 : Int32) (a11 : Int32) (a10 : Int32) (a9 : Int32) (s0 : Int32) : Option Unit :=
  j_L_law_1937 L xs k600 σ s0 a14 a12 a11 a10 a9
def j_L_law_1118 (L : Nat) (xs : Nat → Int32) (k600 : Wd → Int32 → Int32 → Int32 → Int32 → Int32 → Int32 → Option Unit) (σ : Wd) (a20 : Int32) (a14 : Int32) (a12 : Int32) (a11 : Int32) (a10 : Int32) (a9 : Int32) (s0 : Int32) (s1 : Int32) (s2 : Int32) : Option Unit :=
  bu (f_L_up σ s1 s0) fun v30 σ31 =>
  gd (inb s2 17) <|
  bd (wr σ31 76 0 s2.toNatClampNeg v30) fun σ32 =>
  gd (inb a20 17) <|
  gd (inb ((3 : Int32) + a20) 17) <|
  gd (inb ((6 : Int32) + a20) 17) <|
  bu (f_X9_exam σ32 a20 (σ32.1 76 0 a20.toNatClampNeg) (σ32.1 76 0 ((3 : Int32) + a20).toNatClampNeg) (σ32.1 76 0 ((6 : Int32) + a20).toNatClampNeg)) fun v33 σ34 =>
  if v33 = ((σ34.1 76 0 a20.toNatClampNeg) + (((σ34.1 76 0 a20.toNatClampNeg) * (σ34.1 76 0 ((3 : Int32) + a20).toNatClampNeg)) / (100 : Int32))) then
    j_L_law_1178 L xs k600 σ34 a14 a12 a11 a10 a9 (1 : Int32)
  else
    j_L_law_1178 L xs k600 σ34 a14 a12 a11 a10 a9 (0 : Int32)
def j_L_law_1070 (L : Nat) (xs : Nat → Int32) (k600 : Wd → Int32 → Int32 → Int32 → Int32 → Int32 → Int32 → Option Unit) (σ : Wd) (a20 : Int32) (a15 : Int32) (a14 : Int32) (a12 : Int32) (a11 : Int32) (a10 : Int32) (a9 : Int32) (s0 : Int32) (s1 : Int32) (s2 : Int32) (s3 : Int32) : Option Unit :=
  bu (f_L_up σ s1 s0) fun v24 σ25 =>
  gd (inb s3 17) <|
  bd (wr σ25 76 0 s3.toNatClampNeg (s2 + v24)) fun σ26 =>
  bu (f_L_up σ26 (a15 / (1024 : Int32)) (21 : Int32)) fun v27 σ28 =>
  gd (inb ((3 : Int32) + a20) 17) <|
  bd (wr σ28 76 0 ((3 : Int32) + a20).toNatClampNeg v27) fun σ29 =>
  if a20 = 0 then
    j_L_law_1118 L xs k600 σ29 a20 a14 a12 a11 a10 a9 (9 : Int32) (a15 / (2048 : Int32)) ((6 : Int32) + a20)
  else
    j_L_law_1118 L xs k600 σ29 a20 a14 a12 a11 a10 a9 (60 : Int32) (a15 / (2048 : Int32)) ((6 : Int32) + a20)
def j_L_law_1248 (L : Nat) (xs : Nat → Int32) (k600 : Wd → Int32 → Int32 → Int32 → Int32 → Int32 → Int32 → Option Unit) (σ : Wd) (a21 : Int32) (a20 : Int32) (a14 : Int32) (a12 : Int32) (a11 : Int32) (a10 : Int32) (a9 : Int32) (s0 : Int32) : Option Unit :=
  gd (inb (((6 : Int32) * a20) + (5 : Int32)) 18) <|
  bd (wr σ 75 0 (((6 : Int32) * a20) + (5 : Int32)).toNatClampNeg a21) fun σ41 =>
  j_L_law_1937 L xs k600 σ41 s0 a14 a12 a11 a10 a9
def j_L_law_1220 (L : Nat) (xs : Nat → Int32) (k600 : Wd → Int32 → Int32 → Int32 → Int32 → Int32 → Int32 → Option Unit) (σ : Wd) (a20 : Int32) (a14 : Int32) (a12 : Int32) (a11 : Int32) (a10 : Int32) (a9 : Int32) (s0 : Int32) : Option Unit :=
  bu (f_X9_pin σ a20 s0) fun v39 σ40 =>
  gd (inb (((6 : Int32) * a20) + (5 : Int32)) 18) <|
  if v39 = (σ40.1 75 0 (((6 : Int32) * a20) + (5 : Int32)).toNatClampNeg) then
    j_L_law_1248 L xs k600 σ40 s0 a20 a14 a12 a11 a10 a9 (1 : Int32)
  else
    j_L_law_1248 L xs k600 σ40 s0 a20 a14 a12 a11 a10 a9 (0 : Int32)
def j_L_law_1671 (L : Nat) (xs : Nat → Int32) (k600 : Wd → Int32 → Int32 → Int32 → Int32 → Int32 → Int32 → Option Unit) (σ : Wd) (a12 : Int32) (a13 : Int32) (a14 : Int32) (a11 : Int32) (a10 : Int32) (a9 : Int32) : Option Unit :=
  j_L_law_1937 L xs k600 σ a13 a14 a12 a11 a10 a9
def l_L_law_1631 (L : Nat) (xs : Nat → Int32) (k600 : Wd → Int32 → Int32 → Int32 → Int32 → Int32 → Int32 → Option Unit) : Nat → Wd → Int32 → Int32 → Int32 → Int32 → Int32 → Int32 → Int32 → Int32 → Int32 → Option Unit
  | 0, _, _, _, _, _, _, _, _, _, _ => none
  | n + 1, σ, a22, a12, a13, a20, a17, a14, a11, a10, a9 =>
  if a22 < 0 then
    j_L_law_1671 L xs k600 σ a12 a13 a14 a11 a10 a9
  else
    if a20 = 0 then
      j_L_law_1671 L xs k600 σ a12 a13 a14 a11 a10 a9
    else
      gd (inb (((8 : Int32) * a17) + a22) 64) <|
      if (σ.1 72 0 (((8 : Int32) * a17) + a22).toNatClampNeg) = 0 then
        bu (f_L_remove σ a17 a22) fun v45 σ46 =>
        (l_L_law_1631 L xs k600 n) σ46 (a22 + (-1)) a12 a13 a20 a17 a14 a11 a10 a9
      else
        (l_L_law_1631 L xs k600 n) σ (a22 + (-1)) a12 a13 a20 a17 a14 a11 a10 a9
def j_L_law_1620 (L : Nat) (xs : Nat → Int32) (k600 : Wd → Int32 → Int32 → Int32 → Int32 → Int32 → Int32 → Option Unit) (σ : Wd) (a12 : Int32) (a13 : Int32) (a20 : Int32) (a19 : Int32) (a17 : Int32) (a14 : Int32) (a11 : Int32) (a10 : Int32) (a9 : Int32) : Option Unit :=
  gd (inb (a19 + (12 : Int32)) 64) <|
  bd (((σ.1 71 0 (a19 + (12 : Int32)).toNatClampNeg) - (1 : Int32))) fun x44 =>
  l_L_law_1631 L xs k600 FU σ x44 a12 a13 a20 a17 a14 a11 a10 a9
def l_L_law_1593 (L : Nat) (xs : Nat → Int32) (k600 : Wd → Int32 → Int32 → Int32 → Int32 → Int32 → Int32 → Option Unit) : Nat → Wd → Int32 → Int32 → Int32 → Int32 → Int32 → Int32 → Int32 → Int32 → Int32 → Int32 → Int32 → Option Unit
  | 0, _, _, _, _, _, _, _, _, _, _, _, _ => none
  | n + 1, σ, a22, a12, a13, a21, a20, a19, a17, a14, a11, a10, a9 =>
  if (6 : Int32) ≤ a22 then
    j_L_law_1620 L xs k600 σ a12 a13 a20 a19 a17 a14 a11 a10 a9
  else
    if a20 = 0 then
      j_L_law_1620 L xs k600 σ a12 a13 a20 a19 a17 a14 a11 a10 a9
    else
      gd (inb (a19 + a22) 64) <|
      bd (wr σ 71 0 (a19 + a22).toNatClampNeg a21) fun σ47 =>
      (l_L_law_1593 L xs k600 n) σ47 (a22 + 1) a12 a13 a21 a20 a19 a17 a14 a11 a10 a9
def j_L_law_1588 (L : Nat) (xs : Nat → Int32) (k600 : Wd → Int32 → Int32 → Int32 → Int32 → Int32 → Int32 → Option Unit) (σ : Wd) (a13 : Int32) (a21 : Int32) (a20 : Int32) (a19 : Int32) (a17 : Int32) (a14 : Int32) (a11 : Int32) (a10 : Int32) (a9 : Int32) (s0 : Int32) : Option Unit :=
  l_L_law_1593 L xs k600 FU σ (2 : Int32) s0 a13 a21 a20 a19 a17 a14 a11 a10 a9
def j_L_law_1583 (L : Nat) (xs : Nat → Int32) (k600 : Wd → Int32 → Int32 → Int32 → Int32 → Int32 → Int32 → Option Unit) (σ : Wd) (a13 : Int32) (a21 : Int32) (a20 : Int32) (a19 : Int32) (a17 : Int32) (a14 : Int32) (a11 : Int32) (a10 : Int32) (a9 : Int32) : Option Unit :=
  j_L_law_1588 L xs k600 σ a13 a21 a20 a19 a17 a14 a11 a10 a9 (1 : Int32)
def j_L_law_1571 (L : Nat) (xs : Nat → Int32) (k600 : Wd → Int32 → Int32 → Int32 → Int32 → Int32 → Int32 → Option Unit) (σ : Wd) (a21 : Int32) (a20 : Int32) (a19 : Int32) (a17 : Int32) (a14 : Int32) (a12 : Int32) (a11 : Int32) (a10 : Int32) (a9 : Int32) (s0 : Int32) : Option Unit :=
  if a12 = 0 then
    if a20 = 0 then
      j_L_law_1588 L xs k600 σ s0 a21 a20 a19 a17 a14 a11 a10 a9 (0 : Int32)
    else
      j_L_law_1583 L xs k600 σ s0 a21 a20 a19 a17 a14 a11 a10 a9
  else
    j_L_law_1583 L xs k600 σ s0 a21 a20 a19 a17 a14 a11 a10 a9
def j_L_law_1563 (L : Nat) (xs : Nat → Int32) (k600 : Wd → Int32 → Int32 → Int32 → Int32 → Int32 → Int32 → Option Unit) (σ : Wd) (a21 : Int32) (a20 : Int32) (a19 : Int32) (a17 : Int32) (a14 : Int32) (a12 : Int32) (a11 : Int32) (a10 : Int32) (a9 : Int32) (s0 : Int32) (s1 : Int32) : Option Unit :=
  if s1 = s0 then
    j_L_law_1571 L xs k600 σ a21 a20 a19 a17 a14 a12 a11 a10 a9 (1 : Int32)
  else
    j_L_law_1571 L xs k600 σ a21 a20 a19 a17 a14 a12 a11 a10 a9 (0 : Int32)
def j_L_law_1542 (L : Nat) (xs : Nat → Int32) (k600 : Wd → Int32 → Int32 → Int32 → Int32 → Int32 → Int32 → Option Unit) (σ : Wd) (a21 : Int32) (a20 : Int32) (a19 : Int32) (a17 : Int32) (a14 : Int32) (a12 : Int32) (a11 : Int32) (a10 : Int32) (a9 : Int32) : Option Unit :=
  bv (g_shop σ (1 : Int32) a17 (0 : Int32)) fun v42 σ43 =>
  if a20 = 0 then
    j_L_law_1563 L xs k600 σ43 a21 a20 a19 a17 a14 a12 a11 a10 a9 (-1003 : Int32) v42
  else
    j_L_law_1563 L xs k600 σ43 a21 a20 a19 a17 a14 a12 a11 a10 a9 a21 v42
def l_L_law_1462 (L : Nat) (xs : Nat → Int32) (k1433 : Wd → Int32 → Int32 → Int32 → Int32 → Int32 → Int32 → Int32 → Int32 → Int32 → Int32 → Option Unit) : Nat → Wd → Int32 → Int32 → Int32 → Int32 → Int32 → Int32 → Int32 → Int32 → Int32 → Int32 → Int32 → Int32 → Option Unit
  | 0, _, _, _, _, _, _, _, _, _, _, _, _, _ => none
  | n + 1, σ, a24, a23, a22, a21, a20, a19, a17, a14, a12, a11, a10, a9 =>
  gd (inb (a19 + (12 : Int32)) 64) <|
  if (((8 : Int32) * a17) + (σ.1 71 0 (a19 + (12 : Int32)).toNatClampNeg)) ≤ a24 then
    if a21 ≤ a23 then
      k1433 σ (a22 + 1) a21 a20 a19 a17 a14 a12 a11 a10 a9
    else
      k1433 σ (a22 + 1) a23 a20 a19 a17 a14 a12 a11 a10 a9
  else
    gd (inb a24 64) <|
    if (σ.1 72 0 a24.toNatClampNeg) = 0 then
      if (σ.1 73 0 a24.toNatClampNeg) = a22 then
        gd (inb ((32 : Int32) + a24) 64) <|
        bd ((a23 - (σ.1 73 0 ((32 : Int32) + a24).toNatClampNeg))) fun x49 =>
        (l_L_law_1462 L xs k1433 n) σ (a24 + 1) x49 a22 a21 a20 a19 a17 a14 a12 a11 a10 a9
      else
        (l_L_law_1462 L xs k1433 n) σ (a24 + 1) (a23 - (0 : Int32)) a22 a21 a20 a19 a17 a14 a12 a11 a10 a9
    else
      (l_L_law_1462 L xs k1433 n) σ (a24 + 1) (a23 - (0 : Int32)) a22 a21 a20 a19 a17 a14 a12 a11 a10 a9
def l_L_law_1433 (L : Nat) (xs : Nat → Int32) (k600 : Wd → Int32 → Int32 → Int32 → Int32 → Int32 → Int32 → Option Unit) : Nat → Wd → Int32 → Int32 → Int32 → Int32 → Int32 → Int32 → Int32 → Int32 → Int32 → Int32 → Option Unit
  | 0, _, _, _, _, _, _, _, _, _, _, _ => none
  | n + 1, σ, a22, a21, a20, a19, a17, a14, a12, a11, a10, a9 =>
  if (4 : Int32) ≤ a22 then
    j_L_law_1542 L xs k600 σ a21 a20 a19 a17 a14 a12 a11 a10 a9
  else
    if a20 = 0 then
      j_L_law_1542 L xs k600 σ a21 a20 a19 a17 a14 a12 a11 a10 a9
    else
      gd (inb ((a19 + (2 : Int32)) + a22) 64) <|
      bd ((σ.1 71 0 ((a19 + (2 : Int32)) + a22).toNatClampNeg)) fun x48 =>
      l_L_law_1462 L xs (l_L_law_1433 L xs k600 n) FU σ ((8 : Int32) * a17) x48 a22 a21 a20 a19 a17 a14 a12 a11 a10 a9
def j_L_law_1424 (L : Nat) (xs : Nat → Int32) (k600 : Wd → Int32 → Int32 → Int32 → Int32 → Int32 → Int32 → Option Unit) (σ : Wd) (a19 : Int32) (a17 : Int32) (a14 : Int32) (a12 : Int32) (a11 : Int32) (a10 : Int32) (a9 : Int32) (s0 : Int32) : Option Unit :=
  l_L_law_1433 L xs k600 FU σ (0 : Int32) (100000 : Int32) s0 a19 a17 a14 a12 a11 a10 a9
def j_L_law_1423 (L : Nat) (xs : Nat → Int32) (k600 : Wd → Int32 → Int32 → Int32 → Int32 → Int32 → Int32 → Option Unit) (σ : Wd) (a19 : Int32) (a17 : Int32) (a14 : Int32) (a12 : Int32) (a11 : Int32) (a10 : Int32) (a9 : Int32) : Option Unit :=
  j_L_law_1424 L xs k600 σ a19 a17 a14 a12 a11 a10 a9 (0 : Int32)
def j_L_law_1779 (L : Nat) (xs : Nat → Int32) (k600 : Wd → Int32 → Int32 → Int32 → Int32 → Int32 → Int32 → Option Unit) (σ : Wd) (a13 : Int32) (a14 : Int32) (a12 : Int32) (a11 : Int32) (a10 : Int32) (a9 : Int32) : Option Unit :=
  j_L_law_1937 L xs k600 σ a13 a14 a12 a11 a10 a9
def j_L_law_1761 (L : Nat) (xs : Nat → Int32) (k600 : Wd → Int32 → Int32 → Int32 → Int32 → Int32 → Int32 → Option Unit) (σ : Wd) (a21 : Int32) (a20 : Int32) (a17 : Int32) (a14 : Int32) (a12 : Int32) (a11 : Int32) (a10 : Int32) (a9 : Int32) (s0 : Int32) : Option Unit :=
  if a21 < 0 then
    j_L_law_1779 L xs k600 σ s0 a14 a12 a11 a10 a9
  else
    bu (f_L_remove σ a17 a20) fun v54 σ55 =>
    j_L_law_1779 L xs k600 σ55 s0 a14 a12 a11 a10 a9
def j_L_law_1740 (L : Nat) (xs : Nat → Int32) (k600 : Wd → Int32 → Int32 → Int32 → Int32 → Int32 → Int32 → Option Unit) (σ : Wd) (a20 : Int32) (a17 : Int32) (a14 : Int32) (a12 : Int32) (a11 : Int32) (a10 : Int32) (a9 : Int32) (s0 : Int32) : Option Unit :=
  bv (g_shop σ (2 : Int32) a17 a20) fun v52 σ53 =>
  if v52 = s0 then
    j_L_law_1761 L xs k600 σ53 s0 a20 a17 a14 a12 a11 a10 a9 (1 : Int32)
  else
    j_L_law_1761 L xs k600 σ53 s0 a20 a17 a14 a12 a11 a10 a9 (0 : Int32)
def l_L_law_1888 (L : Nat) (xs : Nat → Int32) (k600 : Wd → Int32 → Int32 → Int32 → Int32 → Int32 → Int32 → Option Unit) : Nat → Wd → Int32 → Int32 → Int32 → Int32 → Int32 → Option Unit
  | 0, _, _, _, _, _, _ => none
  | n + 1, σ, a21, a13, a10, a14, a9 =>
  if (3 : Int32) ≤ a21 then
    j_L_law_1937 L xs k600 σ a13 a14 (0 : Int32) (0 : Int32) a10 (a9 + 1)
  else
    if a13 = 0 then
      (l_L_law_1888 L xs k600 n) σ (a21 + 1) (0 : Int32) a10 a14 a9
    else
      bu (f_X9_ran σ a21 a9) fun v64 σ65 =>
      gd (inb a21 3) <|
      if v64 = (σ65.1 77 0 a21.toNatClampNeg) then
        (l_L_law_1888 L xs k600 n) σ65 (a21 + 1) (1 : Int32) a10 a14 a9
      else
        (l_L_law_1888 L xs k600 n) σ65 (a21 + 1) (0 : Int32) a10 a14 a9
def j_L_law_1883 (L : Nat) (xs : Nat → Int32) (k600 : Wd → Int32 → Int32 → Int32 → Int32 → Int32 → Int32 → Option Unit) (σ : Wd) (a10 : Int32) (a14 : Int32) (a9 : Int32) (s0 : Int32) : Option Unit :=
  l_L_law_1888 L xs k600 FU σ (0 : Int32) s0 a10 a14 a9
def j_L_law_1882 (L : Nat) (xs : Nat → Int32) (k600 : Wd → Int32 → Int32 → Int32 → Int32 → Int32 → Int32 → Option Unit) (σ : Wd) (a10 : Int32) (a14 : Int32) (a9 : Int32) : Option Unit :=
  j_L_law_1883 L xs k600 σ a10 a14 a9 (0 : Int32)
def l_L_law_1827 (L : Nat) (xs : Nat → Int32) (k1817 : Wd → Int32 → Int32 → Int32 → Int32 → Int32 → Option Unit) : Nat → Wd → Int32 → Int32 → Int32 → Int32 → Int32 → Int32 → Option Unit
  | 0, _, _, _, _, _, _, _ => none
  | n + 1, σ, a22, a21, a10, a20, a14, a9 =>
  if (12 : Int32) ≤ a22 then
    k1817 σ (a21 + 1) a10 a20 a14 a9
  else
    gd (inb (((16 : Int32) * a21) + a22) 64) <|
    bd (wr σ 71 0 (((16 : Int32) * a21) + a22).toNatClampNeg ((σ.1 71 0 (((16 : Int32) * a21) + a22).toNatClampNeg) + (1 : Int32))) fun σ66 =>
    (l_L_law_1827 L xs k1817 n) σ66 (a22 + 1) a21 a10 a20 a14 a9
def l_L_law_1817 (L : Nat) (xs : Nat → Int32) (k600 : Wd → Int32 → Int32 → Int32 → Int32 → Int32 → Int32 → Option Unit) : Nat → Wd → Int32 → Int32 → Int32 → Int32 → Int32 → Option Unit
  | 0, _, _, _, _, _, _ => none
  | n + 1, σ, a21, a10, a20, a14, a9 =>
  if (4 : Int32) ≤ a21 then
    bu (f_X9_day σ) fun v60 σ61 =>
    if v60 = a20 then
      bu (f_X9_shunts σ61) fun v62 σ63 =>
      if v62 = a10 then
        j_L_law_1883 L xs k600 σ63 a10 a14 a9 (1 : Int32)
      else
        j_L_law_1882 L xs k600 σ63 a10 a14 a9
    else
      j_L_law_1882 L xs k600 σ61 a10 a14 a9
  else
    l_L_law_1827 L xs (l_L_law_1817 L xs k600 n) FU σ (9 : Int32) a21 a10 a20 a14 a9
def j_L_law_1397 (L : Nat) (xs : Nat → Int32) (k600 : Wd → Int32 → Int32 → Int32 → Int32 → Int32 → Int32 → Option Unit) (σ : Wd) (a11 : Int32) (a13 : Int32) (a14 : Int32) (a12 : Int32) (a10 : Int32) (a9 : Int32) : Option Unit :=
  j_L_law_1937 L xs k600 σ a13 a14 a12 a11 a10 a9
def l_L_law_1357 (L : Nat) (xs : Nat → Int32) (k600 : Wd → Int32 → Int32 → Int32 → Int32 → Int32 → Int32 → Option Unit) : Nat → Wd → Int32 → Int32 → Int32 → Int32 → Int32 → Int32 → Int32 → Int32 → Int32 → Int32 → Option Unit
  | 0, _, _, _, _, _, _, _, _, _, _, _ => none
  | n + 1, σ, a22, a11, a13, a21, a20, a19, a14, a12, a10, a9 =>
  if a20 < a22 then
    j_L_law_1397 L xs k600 σ a11 a13 a14 a12 a10 a9
  else
    if a21 = 0 then
      j_L_law_1397 L xs k600 σ a11 a13 a14 a12 a10 a9
    else
      gd (inb ((a19 + (6 : Int32)) + a22) 64) <|
      bd (wr σ 71 0 ((a19 + (6 : Int32)) + a22).toNatClampNeg (0 : Int32)) fun σ71 =>
      gd (inb ((a19 + (9 : Int32)) + a22) 64) <|
      bd (wr σ71 71 0 ((a19 + (9 : Int32)) + a22).toNatClampNeg (0 : Int32)) fun σ72 =>
      (l_L_law_1357 L xs k600 n) σ72 (a22 + 1) a11 a13 a21 a20 a19 a14 a12 a10 a9
def j_L_law_1352 (L : Nat) (xs : Nat → Int32) (k600 : Wd → Int32 → Int32 → Int32 → Int32 → Int32 → Int32 → Option Unit) (σ : Wd) (a13 : Int32) (a21 : Int32) (a20 : Int32) (a19 : Int32) (a14 : Int32) (a12 : Int32) (a10 : Int32) (a9 : Int32) (s0 : Int32) : Option Unit :=
  l_L_law_1357 L xs k600 FU σ (0 : Int32) s0 a13 a21 a20 a19 a14 a12 a10 a9
def j_L_law_1347 (L : Nat) (xs : Nat → Int32) (k600 : Wd → Int32 → Int32 → Int32 → Int32 → Int32 → Int32 → Option Unit) (σ : Wd) (a13 : Int32) (a21 : Int32) (a20 : Int32) (a19 : Int32) (a14 : Int32) (a12 : Int32) (a10 : Int32) (a9 : Int32) : Option Unit :=
  j_L_law_1352 L xs k600 σ a13 a21 a20 a19 a14 a12 a10 a9 (1 : Int32)
def j_L_law_1335 (L : Nat) (xs : Nat → Int32) (k600 : Wd → Int32 → Int32 → Int32 → Int32 → Int32 → Int32 → Option Unit) (σ : Wd) (a21 : Int32) (a20 : Int32) (a19 : Int32) (a14 : Int32) (a12 : Int32) (a11 : Int32) (a10 : Int32) (a9 : Int32) (s0 : Int32) : Option Unit :=
  if a11 = 0 then
    if a21 = 0 then
      j_L_law_1352 L xs k600 σ s0 a21 a20 a19 a14 a12 a10 a9 (0 : Int32)
    else
      j_L_law_1347 L xs k600 σ s0 a21 a20 a19 a14 a12 a10 a9
  else
    j_L_law_1347 L xs k600 σ s0 a21 a20 a19 a14 a12 a10 a9
def j_L_law_1327 (L : Nat) (xs : Nat → Int32) (k600 : Wd → Int32 → Int32 → Int32 → Int32 → Int32 → Int32 → Option Unit) (σ : Wd) (a21 : Int32) (a20 : Int32) (a19 : Int32) (a14 : Int32) (a12 : Int32) (a11 : Int32) (a10 : Int32) (a9 : Int32) (s0 : Int32) (s1 : Int32) : Option Unit :=
  if s1 = s0 then
    j_L_law_1335 L xs k600 σ a21 a20 a19 a14 a12 a11 a10 a9 (1 : Int32)
  else
    j_L_law_1335 L xs k600 σ a21 a20 a19 a14 a12 a11 a10 a9 (0 : Int32)
def j_L_law_1301 (L : Nat) (xs : Nat → Int32) (k600 : Wd → Int32 → Int32 → Int32 → Int32 → Int32 → Int32 → Option Unit) (σ : Wd) (a20 : Int32) (a19 : Int32) (a17 : Int32) (a14 : Int32) (a12 : Int32) (a11 : Int32) (a10 : Int32) (a9 : Int32) (s0 : Int32) : Option Unit :=
  bv (g_shop σ (0 : Int32) a17 a20) fun v69 σ70 =>
  if s0 = 0 then
    j_L_law_1327 L xs k600 σ70 s0 a20 a19 a14 a12 a11 a10 a9 (-1003 : Int32) v69
  else
    j_L_law_1327 L xs k600 σ70 s0 a20 a19 a14 a12 a11 a10 a9 (a20 + (1 : Int32)) v69
def j_L_law_1300 (L : Nat) (xs : Nat → Int32) (k600 : Wd → Int32 → Int32 → Int32 → Int32 → Int32 → Int32 → Option Unit) (σ : Wd) (a20 : Int32) (a19 : Int32) (a17 : Int32) (a14 : Int32) (a12 : Int32) (a11 : Int32) (a10 : Int32) (a9 : Int32) : Option Unit :=
  j_L_law_1301 L xs k600 σ a20 a19 a17 a14 a12 a11 a10 a9 (0 : Int32)
def j_L_law_902 (L : Nat) (xs : Nat → Int32) (k600 : Wd → Int32 → Int32 → Int32 → Int32 → Int32 → Int32 → Option Unit) (σ : Wd) (a13 : Int32) (a14 : Int32) (a12 : Int32) (a11 : Int32) (a10 : Int32) (a9 : Int32) : Option Unit :=
  j_L_law_1937 L xs k600 σ a13 a14 a12 a11 a10 a9
def j_L_law_890 (L : Nat) (xs : Nat → Int32) (k600 : Wd → Int32 → Int32 → Int32 → Int32 → Int32 → Int32 → Option Unit) (σ : Wd) (a13 : Int32) (a19 : Int32) (a14 : Int32) (a12 : Int32) (a11 : Int32) (a10 : Int32) (a9 : Int32) (s0 : Int32) (s1 : Int32) : Option Unit :=
  gd (inb s1 64) <|
  bd (wr σ 73 0 s1.toNatClampNeg s0) fun σ83 =>
  gd (inb (a19 + (12 : Int32)) 64) <|
  bd (wr σ83 71 0 (a19 + (12 : Int32)).toNatClampNeg ((σ83.1 71 0 (a19 + (12 : Int32)).toNatClampNeg) + (1 : Int32))) fun σ84 =>
  j_L_law_902 L xs k600 σ84 a13 a14 a12 a11 a10 a9
def j_L_law_862 (L : Nat) (xs : Nat → Int32) (k600 : Wd → Int32 → Int32 → Int32 → Int32 → Int32 → Int32 → Option Unit) (σ : Wd) (a13 : Int32) (a22 : Int32) (a21 : Int32) (a19 : Int32) (a18 : Int32) (a17 : Int32) (a14 : Int32) (a12 : Int32) (a11 : Int32) (a10 : Int32) (a9 : Int32) (s0 : Int32) (s1 : Int32) : Option Unit :=
  gd (inb s1 64) <|
  bd (wr σ 73 0 s1.toNatClampNeg s0) fun σ82 =>
  if (a18 - a18 / (2 : Int32) * (2 : Int32)) = (1 : Int32) then
    j_L_law_890 L xs k600 σ82 a13 a19 a14 a12 a11 a10 a9 (-1 : Int32) (((32 : Int32) + ((8 : Int32) * a17)) + a22)
  else
    j_L_law_890 L xs k600 σ82 a13 a19 a14 a12 a11 a10 a9 a21 (((32 : Int32) + ((8 : Int32) * a17)) + a22)
def j_L_law_804 (L : Nat) (xs : Nat → Int32) (k600 : Wd → Int32 → Int32 → Int32 → Int32 → Int32 → Int32 → Option Unit) (σ : Wd) (a22 : Int32) (a21 : Int32) (a20 : Int32) (a19 : Int32) (a18 : Int32) (a17 : Int32) (a14 : Int32) (a12 : Int32) (a11 : Int32) (a10 : Int32) (a9 : Int32) (s0 : Int32) : Option Unit :=
  if (8 : Int32) ≤ a22 then
    j_L_law_902 L xs k600 σ s0 a14 a12 a11 a10 a9
  else
    gd (inb (((8 : Int32) * a17) + a22) 64) <|
    bd (wr σ 72 0 (((8 : Int32) * a17) + a22).toNatClampNeg a18) fun σ80 =>
    gd (inb (((32 : Int32) + ((8 : Int32) * a17)) + a22) 64) <|
    bd (wr σ80 72 0 (((32 : Int32) + ((8 : Int32) * a17)) + a22).toNatClampNeg a9) fun σ81 =>
    if a18 ≤ (1 : Int32) then
      j_L_law_862 L xs k600 σ81 s0 a22 a21 a19 a18 a17 a14 a12 a11 a10 a9 a20 (((8 : Int32) * a17) + a22)
    else
      j_L_law_862 L xs k600 σ81 s0 a22 a21 a19 a18 a17 a14 a12 a11 a10 a9 (-1 : Int32) (((8 : Int32) * a17) + a22)
def j_L_law_796 (L : Nat) (xs : Nat → Int32) (k600 : Wd → Int32 → Int32 → Int32 → Int32 → Int32 → Int32 → Option Unit) (σ : Wd) (a22 : Int32) (a21 : Int32) (a20 : Int32) (a19 : Int32) (a18 : Int32) (a17 : Int32) (a14 : Int32) (a12 : Int32) (a11 : Int32) (a10 : Int32) (a9 : Int32) (s0 : Int32) (s1 : Int32) : Option Unit :=
  if s1 = s0 then
    j_L_law_804 L xs k600 σ a22 a21 a20 a19 a18 a17 a14 a12 a11 a10 a9 (1 : Int32)
  else
    j_L_law_804 L xs k600 σ a22 a21 a20 a19 a18 a17 a14 a12 a11 a10 a9 (0 : Int32)
def j_L_law_756 (L : Nat) (xs : Nat → Int32) (k600 : Wd → Int32 → Int32 → Int32 → Int32 → Int32 → Int32 → Option Unit) (σ : Wd) (a20 : Int32) (a19 : Int32) (a18 : Int32) (a17 : Int32) (a14 : Int32) (a12 : Int32) (a11 : Int32) (a10 : Int32) (a9 : Int32) (s0 : Int32) : Option Unit :=
  gd (inb (a19 + (12 : Int32)) 64) <|
  bd ((σ.1 71 0 (a19 + (12 : Int32)).toNatClampNeg)) fun x77 =>
  bv (g_told σ a17 a18 a20 s0) fun v78 σ79 =>
  if x77 = (8 : Int32) then
    j_L_law_796 L xs k600 σ79 x77 s0 a20 a19 a18 a17 a14 a12 a11 a10 a9 (-1003 : Int32) v78
  else
    j_L_law_796 L xs k600 σ79 x77 s0 a20 a19 a18 a17 a14 a12 a11 a10 a9 (x77 + (1 : Int32)) v78
def j_L_law_696 (L : Nat) (xs : Nat → Int32) (k600 : Wd → Int32 → Int32 → Int32 → Int32 → Int32 → Int32 → Option Unit) (σ : Wd) (a19 : Int32) (a18 : Int32) (a17 : Int32) (a15 : Int32) (a14 : Int32) (a12 : Int32) (a11 : Int32) (a10 : Int32) (a9 : Int32) (s0 : Int32) : Option Unit :=
  if a18 = 0 then
    bu (f_L_up σ (a15 / (512 : Int32)) (20 : Int32)) fun v75 σ76 =>
    j_L_law_756 L xs k600 σ76 s0 a19 a18 a17 a14 a12 a11 a10 a9 ((1 : Int32) + v75)
  else
    if a18 = (2 : Int32) then
      bu (f_L_up σ (a15 / (512 : Int32)) (100 : Int32)) fun v85 σ86 =>
      j_L_law_756 L xs k600 σ86 s0 a19 a18 a17 a14 a12 a11 a10 a9 ((1 : Int32) + v85)
    else
      bu (f_L_up σ (a15 / (512 : Int32)) (300 : Int32)) fun v87 σ88 =>
      j_L_law_756 L xs k600 σ88 s0 a19 a18 a17 a14 a12 a11 a10 a9 (v87 - (100 : Int32))
def l_L_law_600 (L : Nat) (xs : Nat → Int32) : Nat → Wd → Int32 → Int32 → Int32 → Int32 → Int32 → Int32 → Option Unit
  | 0, _, _, _, _, _, _, _ => none
  | n + 1, σ, a14, a13, a12, a11, a10, a9 =>
  if (67 : Int32) ≤ a14 then
    gd (a13 = 1) <| some ()
  else
    if a13 = 0 then
      gd (a13 = 1) <| some ()
    else
      gd (¬ Int32.ofNat L = 0 → inb (a14 - a14 / Int32.ofNat L * Int32.ofNat L) L) <|
      bd (cellF L xs a14) fun x1 =>
      bu (f_L_up σ x1 (14 : Int32)) fun v2 σ3 =>
      bu (f_L_up σ3 (x1 / (16 : Int32)) (4 : Int32)) fun v4 σ5 =>
      bu (f_L_up σ5 (x1 / (64 : Int32)) (4 : Int32)) fun v6 σ7 =>
      if (2 : Int32) ≤ v2 then
        if v2 = (2 : Int32) then
          bu (f_L_up σ7 (x1 / (256 : Int32)) (4 : Int32)) fun v8 σ9 =>
          if v8 = 0 then
            j_L_law_939 L xs (l_L_law_600 L xs n) σ9 v6 x1 a14 a12 a11 a10 a9 (-1 : Int32)
          else
            bu (f_L_up σ9 (x1 / (256 : Int32)) (31 : Int32)) fun v20 σ21 =>
            j_L_law_939 L xs (l_L_law_600 L xs n) σ21 v6 x1 a14 a12 a11 a10 a9 v20
        else
          if v2 = (3 : Int32) then
            bu (f_L_up σ7 (x1 / (256 : Int32)) (3 : Int32)) fun v22 σ23 =>
            if v22 = 0 then
              j_L_law_1070 L xs (l_L_law_600 L xs n) σ23 v22 x1 a14 a12 a11 a10 a9 (1500 : Int32) (x1 / (512 : Int32)) (100 : Int32) v22
            else
              j_L_law_1070 L xs (l_L_law_600 L xs n) σ23 v22 x1 a14 a12 a11 a10 a9 (9000 : Int32) (x1 / (512 : Int32)) (100 : Int32) v22
          else
            if v2 = (4 : Int32) then
              bu (f_L_up σ7 (x1 / (256 : Int32)) (3 : Int32)) fun v35 σ36 =>
              bu (f_L_up σ36 (x1 / (512 : Int32)) (3 : Int32)) fun v37 σ38 =>
              if v37 = 0 then
                j_L_law_1220 L xs (l_L_law_600 L xs n) σ38 v35 a14 a12 a11 a10 a9 (-1 : Int32)
              else
                j_L_law_1220 L xs (l_L_law_600 L xs n) σ38 v35 a14 a12 a11 a10 a9 v4
            else
              if (7 : Int32) ≤ v2 then
                if v2 = (7 : Int32) then
                  gd (inb ((16 : Int32) * v4) 64) <|
                  if (σ7.1 71 0 ((16 : Int32) * v4).toNatClampNeg) = 0 then
                    if a12 = 0 then
                      j_L_law_1424 L xs (l_L_law_600 L xs n) σ7 ((16 : Int32) * v4) v4 a14 a12 a11 a10 a9 (1 : Int32)
                    else
                      j_L_law_1423 L xs (l_L_law_600 L xs n) σ7 ((16 : Int32) * v4) v4 a14 a12 a11 a10 a9
                  else
                    j_L_law_1423 L xs (l_L_law_600 L xs n) σ7 ((16 : Int32) * v4) v4 a14 a12 a11 a10 a9
                else
                  if v2 = (8 : Int32) then
                    bu (f_L_up σ7 (x1 / (256 : Int32)) (4 : Int32)) fun v50 σ51 =>
                    gd (inb (((16 : Int32) * v4) + (12 : Int32)) 64) <|
                    if v50 < (σ51.1 71 0 (((16 : Int32) * v4) + (12 : Int32)).toNatClampNeg) then
                      gd (inb (((8 : Int32) * v4) + v50) 64) <|
                      if (σ51.1 72 0 (((8 : Int32) * v4) + v50).toNatClampNeg) = 0 then
                        j_L_law_1740 L xs (l_L_law_600 L xs n) σ51 v50 v4 a14 a12 a11 a10 a9 (-1003 : Int32)
                      else
                        j_L_law_1740 L xs (l_L_law_600 L xs n) σ51 v50 v4 a14 a12 a11 a10 a9 (σ51.1 72 0 (((8 : Int32) * v4) + v50).toNatClampNeg)
                    else
                      j_L_law_1740 L xs (l_L_law_600 L xs n) σ51 v50 v4 a14 a12 a11 a10 a9 (-1001 : Int32)
                  else
                    bu (f_L_allocates σ7 a9) fun v56 σ57 =>
                    bu (f_L_runs σ57) fun v58 σ59 =>
                    l_L_law_1817 L xs (l_L_law_600 L xs n) FU σ59 (0 : Int32) (a10 + v58) v56 a14 a9
              else
                bu (f_L_up σ7 (x1 / (256 : Int32)) (3 : Int32)) fun v67 σ68 =>
                gd (inb ((16 : Int32) * v4) 64) <|
                if (σ68.1 71 0 ((16 : Int32) * v4).toNatClampNeg) = 0 then
                  if a11 = 0 then
                    j_L_law_1301 L xs (l_L_law_600 L xs n) σ68 v67 ((16 : Int32) * v4) v4 a14 a12 a11 a10 a9 (1 : Int32)
                  else
                    j_L_law_1300 L xs (l_L_law_600 L xs n) σ68 v67 ((16 : Int32) * v4) v4 a14 a12 a11 a10 a9
                else
                  j_L_law_1300 L xs (l_L_law_600 L xs n) σ68 v67 ((16 : Int32) * v4) v4 a14 a12 a11 a10 a9
      else
        if v6 ≤ (1 : Int32) then
          bu (f_L_up σ7 (x1 / (256 : Int32)) (4 : Int32)) fun v73 σ74 =>
          j_L_law_696 L xs (l_L_law_600 L xs n) σ74 ((16 : Int32) * v4) v6 v4 x1 a14 a12 a11 a10 a9 v73
        else
          bu (f_L_up σ7 (x1 / (256 : Int32)) (9 : Int32)) fun v89 σ90 =>
          j_L_law_696 L xs (l_L_law_600 L xs n) σ90 ((16 : Int32) * v4) v6 v4 x1 a14 a12 a11 a10 a9 (v89 - (4 : Int32))
def l_L_law_575 (L : Nat) (xs : Nat → Int32) : Nat → Wd → Int32 → Int32 → Int32 → Int32 → Int32 → Int32 → Option Unit
  | 0, _, _, _, _, _, _, _ => none
  | n + 1, σ, a14, a13, a12, a11, a10, a9 =>
  if (4 : Int32) ≤ a14 then
    l_L_law_600 L xs 100 σ (7 : Int32) a13 a12 a11 a10 a9
  else
    gd (inb ((9 : Int32) + a14) 17) <|
    bd (wr σ 76 0 ((9 : Int32) + a14).toNatClampNeg (-1 : Int32)) fun σ91 =>
    (l_L_law_575 L xs n) σ91 (a14 + 1) a13 a12 a11 a10 a9
def j_L_law_526 (L : Nat) (xs : Nat → Int32) (k233 : Wd → Int32 → Int32 → Int32 → Int32 → Int32 → Int32 → Option Unit) (σ : Wd) (a13 : Int32) (a14 : Int32) (a12 : Int32) (a11 : Int32) (a10 : Int32) (a9 : Int32) (s0 : Int32) (s1 : Int32) : Option Unit :=
  gd (inb s1 17) <|
  bd (wr σ 76 0 s1.toNatClampNeg s0) fun σ117 =>
  gd (inb ((3 : Int32) + a14) 17) <|
  bd (wr σ117 76 0 ((3 : Int32) + a14).toNatClampNeg (10 : Int32)) fun σ118 =>
  if a14 = 0 then
    gd (inb ((6 : Int32) + a14) 17) <|
    bd (wr σ118 76 0 ((6 : Int32) + a14).toNatClampNeg (5 : Int32)) fun σ119 =>
    k233 σ119 (a14 + 1) a13 a12 a11 a10 a9
  else
    if a14 = (1 : Int32) then
      gd (inb ((6 : Int32) + a14) 17) <|
      bd (wr σ118 76 0 ((6 : Int32) + a14).toNatClampNeg (20 : Int32)) fun σ120 =>
      k233 σ120 (a14 + 1) a13 a12 a11 a10 a9
    else
      gd (inb ((6 : Int32) + a14) 17) <|
      bd (wr σ118 76 0 ((6 : Int32) + a14).toNatClampNeg (60 : Int32)) fun σ121 =>
      k233 σ121 (a14 + 1) a13 a12 a11 a10 a9
def j_L_law_494 (L : Nat) (xs : Nat → Int32) (k233 : Wd → Int32 → Int32 → Int32 → Int32 → Int32 → Int32 → Option Unit) (σ : Wd) (a14 : Int32) (a12 : Int32) (a11 : Int32) (a10 : Int32) (a9 : Int32) (s0 : Int32) : Option Unit :=
  if a14 = 0 then
    j_L_law_526 L xs k233 σ s0 a14 a12 a11 a10 a9 (1000 : Int32) a14
  else
    if a14 = (1 : Int32) then
      j_L_law_526 L xs k233 σ s0 a14 a12 a11 a10 a9 (3000 : Int32) a14
    else
      j_L_law_526 L xs k233 σ s0 a14 a12 a11 a10 a9 (9000 : Int32) a14
def j_L_law_493 (L : Nat) (xs : Nat → Int32) (k233 : Wd → Int32 → Int32 → Int32 → Int32 → Int32 → Int32 → Option Unit) (σ : Wd) (a14 : Int32) (a12 : Int32) (a11 : Int32) (a10 : Int32) (a9 : Int32) : Option Unit :=
  j_L_law_494 L xs k233 σ a14 a12 a11 a10 a9 (0 : Int32)
def j_L_law_411 (L : Nat) (xs : Nat → Int32) (k233 : Wd → Int32 → Int32 → Int32 → Int32 → Int32 → Int32 → Option Unit) (σ : Wd) (a14 : Int32) (a13 : Int32) (a12 : Int32) (a11 : Int32) (a10 : Int32) (a9 : Int32) (s0 : Int32) (s1 : Int32) (s2 : Int32) (s3 : Int32) : Option Unit :=
  bu (f_L_up σ s1 s0) fun v113 σ114 =>
  gd (inb s3 18) <|
  bd (wr σ114 75 0 s3.toNatClampNeg (s2 + v113)) fun σ115 =>
  gd (inb (((6 : Int32) * a14) + (5 : Int32)) 18) <|
  bd (wr σ115 75 0 (((6 : Int32) * a14) + (5 : Int32)).toNatClampNeg (-1 : Int32)) fun σ116 =>
  if a13 = 0 then
    j_L_law_493 L xs k233 σ116 a14 a12 a11 a10 a9
  else
    gd (inb ((6 : Int32) * a14) 18) <|
    gd (inb (((6 : Int32) * a14) + (1 : Int32)) 18) <|
    gd (inb (((6 : Int32) * a14) + (2 : Int32)) 18) <|
    gd (inb (((6 : Int32) * a14) + (3 : Int32)) 18) <|
    gd (inb (((6 : Int32) * a14) + (4 : Int32)) 18) <|
    bu (f_X9_diagram σ116 (σ116.1 75 0 ((6 : Int32) * a14).toNatClampNeg) (σ116.1 75 0 (((6 : Int32) * a14) + (1 : Int32)).toNatClampNeg) (σ116.1 75 0 (((6 : Int32) * a14) + (2 : Int32)).toNatClampNeg) (σ116.1 75 0 (((6 : Int32) * a14) + (3 : Int32)).toNatClampNeg) (σ116.1 75 0 (((6 : Int32) * a14) + (4 : Int32)).toNatClampNeg)) fun v122 σ123 =>
    if v122 = a14 then
      j_L_law_494 L xs k233 σ123 a14 a12 a11 a10 a9 (1 : Int32)
    else
      j_L_law_493 L xs k233 σ123 a14 a12 a11 a10 a9
def j_L_law_352 (L : Nat) (xs : Nat → Int32) (k233 : Wd → Int32 → Int32 → Int32 → Int32 → Int32 → Int32 → Option Unit) (σ : Wd) (a15 : Int32) (a14 : Int32) (a13 : Int32) (a12 : Int32) (a11 : Int32) (a10 : Int32) (a9 : Int32) (s0 : Int32) (s1 : Int32) (s2 : Int32) (s3 : Int32) : Option Unit :=
  bu (f_L_up σ s1 s0) fun v105 σ106 =>
  gd (inb s3 18) <|
  bd (wr σ106 75 0 s3.toNatClampNeg (s2 + v105)) fun σ107 =>
  bu (f_L_up σ107 (a15 / (128 : Int32)) (3 : Int32)) fun v108 σ109 =>
  gd (inb (((6 : Int32) * a14) + (3 : Int32)) 18) <|
  bd (wr σ109 75 0 (((6 : Int32) * a14) + (3 : Int32)).toNatClampNeg v108) fun σ110 =>
  bu (f_L_up σ110 (a15 / (16 : Int32)) (2 : Int32)) fun v111 σ112 =>
  if v111 = 0 then
    j_L_law_411 L xs k233 σ112 a14 a13 a12 a11 a10 a9 (3 : Int32) (a15 / (256 : Int32)) (1 : Int32) (((6 : Int32) * a14) + (4 : Int32))
  else
    j_L_law_411 L xs k233 σ112 a14 a13 a12 a11 a10 a9 (100 : Int32) (a15 / (256 : Int32)) (1 : Int32) (((6 : Int32) * a14) + (4 : Int32))
def j_L_law_315 (L : Nat) (xs : Nat → Int32) (k233 : Wd → Int32 → Int32 → Int32 → Int32 → Int32 → Int32 → Option Unit) (σ : Wd) (a15 : Int32) (a14 : Int32) (a13 : Int32) (a12 : Int32) (a11 : Int32) (a10 : Int32) (a9 : Int32) (s0 : Int32) (s1 : Int32) : Option Unit :=
  gd (inb s1 18) <|
  bd (wr σ 75 0 s1.toNatClampNeg s0) fun σ102 =>
  bu (f_L_up σ102 (a15 / (8 : Int32)) (3 : Int32)) fun v103 σ104 =>
  if v103 = 0 then
    j_L_law_352 L xs k233 σ104 a15 a14 a13 a12 a11 a10 a9 (2000 : Int32) (a15 / (64 : Int32)) (1 : Int32) (((6 : Int32) * a14) + (2 : Int32))
  else
    j_L_law_352 L xs k233 σ104 a15 a14 a13 a12 a11 a10 a9 (400 : Int32) (a15 / (64 : Int32)) (1 : Int32) (((6 : Int32) * a14) + (2 : Int32))
def j_L_law_279 (L : Nat) (xs : Nat → Int32) (k233 : Wd → Int32 → Int32 → Int32 → Int32 → Int32 → Int32 → Option Unit) (σ : Wd) (a15 : Int32) (a14 : Int32) (a13 : Int32) (a12 : Int32) (a11 : Int32) (a10 : Int32) (a9 : Int32) (s0 : Int32) (s1 : Int32) : Option Unit :=
  gd (inb s1 18) <|
  bd (wr σ 75 0 s1.toNatClampNeg s0) fun σ97 =>
  bu (f_L_up σ97 (a15 / (32 : Int32)) (5 : Int32)) fun v98 σ99 =>
  if (3 : Int32) ≤ v98 then
    bu (f_L_up σ99 (a15 / (64 : Int32)) (3 : Int32)) fun v100 σ101 =>
    j_L_law_315 L xs k233 σ101 a15 a14 a13 a12 a11 a10 a9 v100 (((6 : Int32) * a14) + (1 : Int32))
  else
    j_L_law_315 L xs k233 σ99 a15 a14 a13 a12 a11 a10 a9 (0 : Int32) (((6 : Int32) * a14) + (1 : Int32))
def l_L_law_233 (L : Nat) (xs : Nat → Int32) : Nat → Wd → Int32 → Int32 → Int32 → Int32 → Int32 → Int32 → Option Unit
  | 0, _, _, _, _, _, _, _ => none
  | n + 1, σ, a14, a13, a12, a11, a10, a9 =>
  if (3 : Int32) ≤ a14 then
    l_L_law_575 L xs FU σ (0 : Int32) a13 a12 a11 a10 a9
  else
    gd (¬ Int32.ofNat L = 0 → inb (((4 : Int32) + a14) - ((4 : Int32) + a14) / Int32.ofNat L * Int32.ofNat L) L) <|
    bd (cellF L xs ((4 : Int32) + a14)) fun x92 =>
    bu (f_L_up σ x92 (5 : Int32)) fun v93 σ94 =>
    if (3 : Int32) ≤ v93 then
      bu (f_L_up σ94 (x92 / (16 : Int32)) (3 : Int32)) fun v95 σ96 =>
      j_L_law_279 L xs (l_L_law_233 L xs n) σ96 x92 a14 a13 a12 a11 a10 a9 v95 ((6 : Int32) * a14)
    else
      j_L_law_279 L xs (l_L_law_233 L xs n) σ94 x92 a14 a13 a12 a11 a10 a9 (0 : Int32) ((6 : Int32) * a14)
def l_L_law_136 (L : Nat) (xs : Nat → Int32) (k65 : Wd → Int32 → Int32 → Int32 → Int32 → Int32 → Int32 → Option Unit) : Nat → Wd → Int32 → Int32 → Int32 → Int32 → Int32 → Int32 → Int32 → Int32 → Option Unit
  | 0, _, _, _, _, _, _, _, _, _ => none
  | n + 1, σ, a17, a16, a14, a13, a12, a11, a10, a9 =>
  if (6 : Int32) ≤ a17 then
    gd (inb ((12 : Int32) + a16) 16) <|
    gd (inb (((4 : Int32) * a16) + (σ.1 74 0 ((12 : Int32) + a16).toNatClampNeg)) 16) <|
    bd (wr σ 74 0 (((4 : Int32) * a16) + (σ.1 74 0 ((12 : Int32) + a16).toNatClampNeg)).toNatClampNeg a14) fun σ133 =>
    bd (wr σ133 74 0 ((12 : Int32) + a16).toNatClampNeg ((σ133.1 74 0 ((12 : Int32) + a16).toNatClampNeg) + (1 : Int32))) fun σ134 =>
    if a13 = 0 then
      k65 σ134 (a14 + 1) (0 : Int32) a12 a11 a10 a9
    else
      gd (inb (((16 : Int32) * a14) + (1 : Int32)) 64) <|
      bu (f_X9_unit σ134 a16 (σ134.1 71 0 (((16 : Int32) * a14) + (1 : Int32)).toNatClampNeg)) fun v135 σ136 =>
      if v135 = a14 then
        k65 σ136 (a14 + 1) (1 : Int32) a12 a11 a10 a9
      else
        k65 σ136 (a14 + 1) (0 : Int32) a12 a11 a10 a9
  else
    gd (inb (((16 : Int32) * a14) + a17) 64) <|
    bd (wr σ 71 0 (((16 : Int32) * a14) + a17).toNatClampNeg (900 : Int32)) fun σ137 =>
    (l_L_law_136 L xs k65 n) σ137 (a17 + 1) a16 a14 a13 a12 a11 a10 a9
def j_L_law_102 (L : Nat) (xs : Nat → Int32) (k65 : Wd → Int32 → Int32 → Int32 → Int32 → Int32 → Int32 → Option Unit) (σ : Wd) (a15 : Int32) (a14 : Int32) (a13 : Int32) (a12 : Int32) (a11 : Int32) (a10 : Int32) (a9 : Int32) (s0 : Int32) : Option Unit :=
  gd (inb ((16 : Int32) * a14) 64) <|
  bd (wr σ 71 0 ((16 : Int32) * a14).toNatClampNeg s0) fun σ129 =>
  bu (f_L_up σ129 (a15 / (16 : Int32)) (3000 : Int32)) fun v130 σ131 =>
  gd (inb (((16 : Int32) * a14) + (1 : Int32)) 64) <|
  bd (wr σ131 71 0 (((16 : Int32) * a14) + (1 : Int32)).toNatClampNeg v130) fun σ132 =>
  l_L_law_136 L xs k65 FU σ132 (2 : Int32) s0 a14 a13 a12 a11 a10 a9
def l_L_law_65 (L : Nat) (xs : Nat → Int32) : Nat → Wd → Int32 → Int32 → Int32 → Int32 → Int32 → Int32 → Option Unit
  | 0, _, _, _, _, _, _, _ => none
  | n + 1, σ, a14, a13, a12, a11, a10, a9 =>
  if (4 : Int32) ≤ a14 then
    l_L_law_233 L xs 8 σ (0 : Int32) a13 a12 a11 a10 a9
  else
    gd (¬ Int32.ofNat L = 0 → inb (a14 - a14 / Int32.ofNat L * Int32.ofNat L) L) <|
    bd (cellF L xs a14) fun x124 =>
    bu (f_L_up σ x124 (4 : Int32)) fun v125 σ126 =>
    if v125 = (3 : Int32) then
      bu (f_L_up σ126 (x124 / (16 : Int32)) (3 : Int32)) fun v127 σ128 =>
      j_L_law_102 L xs (l_L_law_65 L xs n) σ128 x124 a14 a13 a12 a11 a10 a9 v127
    else
      j_L_law_102 L xs (l_L_law_65 L xs n) σ126 x124 a14 a13 a12 a11 a10 a9 (0 : Int32)
def f_law (L : Nat) (xs : Nat → Int32) (σ : Wd) : Option Unit :=
  l_L_law_65 L xs 8 σ (0 : Int32) (1 : Int32) (0 : Int32) (0 : Int32) (0 : Int32) (0 : Int32)
