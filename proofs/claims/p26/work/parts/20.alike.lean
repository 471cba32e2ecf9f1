theorem w_510 : Cond.methodLink RL 43 yX9_today ∈ G_ := gt4 91 (by decide +kernel) (by decide +kernel)
theorem w_511 : Cond.instanceMethod yX9_today ∈ G_ := gt4 92 (by decide +kernel) (by decide +kernel)
theorem w_512 : Cond.selects RX9 yX9_today yX9_today ∈ G_ := gt4 93 (by decide +kernel) (by decide +kernel)
theorem w_513 : Cond.code yX9_today cX9_today 1 (some (.int)) ∈ G_ := gt4 94 (by decide +kernel) (by decide +kernel)
theorem w_514 : Cond.methodLink RL 70 yL_allocates ∈ G_ := gt3 221 (by decide +kernel) (by decide +kernel)
theorem w_515 : Cond.static yL_allocates ∈ G_ := gt3 222 (by decide +kernel) (by decide +kernel)
theorem w_516 : Cond.code yL_allocates cL_allocates 18 (some (.int)) ∈ G_ := gt3 223 (by decide +kernel) (by decide +kernel)
theorem w_517 : Cond.methodLink RL 77 yX9_allocation ∈ G_ := gt4 146 (by decide +kernel) (by decide +kernel)
theorem w_518 : Cond.instanceMethod yX9_allocation ∈ G_ := gt4 147 (by decide +kernel) (by decide +kernel)
theorem w_519 : Cond.selects RX9 yX9_allocation yX9_allocation ∈ G_ := gt4 148 (by decide +kernel) (by decide +kernel)
theorem w_520 : Cond.code yX9_allocation cX9_allocation 2 (some (.int)) ∈ G_ := gt4 149 (by decide +kernel) (by decide +kernel)
theorem w_521 : Cond.methodLink RL 80 yX9_allocationAnew ∈ G_ := gt4 150 (by decide +kernel) (by decide +kernel)
theorem w_522 : Cond.instanceMethod yX9_allocationAnew ∈ G_ := gt4 151 (by decide +kernel) (by decide +kernel)
theorem w_523 : Cond.selects RX9 yX9_allocationAnew yX9_allocationAnew ∈ G_ := gt4 152 (by decide +kernel) (by decide +kernel)
theorem w_524 : Cond.code yX9_allocationAnew cX9_allocationAnew 2 (some (.int)) ∈ G_ := gt4 153 (by decide +kernel) (by decide +kernel)
theorem w_525 : Cond.methodLink RL 74 yX9_lack ∈ G_ := gt4 142 (by decide +kernel) (by decide +kernel)
theorem w_526 : Cond.instanceMethod yX9_lack ∈ G_ := gt4 143 (by decide +kernel) (by decide +kernel)
theorem w_527 : Cond.selects RX9 yX9_lack yX9_lack ∈ G_ := gt4 144 (by decide +kernel) (by decide +kernel)
theorem w_528 : Cond.code yX9_lack cX9_lack 1 (some (.int)) ∈ G_ := gt4 145 (by decide +kernel) (by decide +kernel)
theorem w_529 : Cond.methodLink RL 67 yX9_stands ∈ G_ := gt4 133 (by decide +kernel) (by decide +kernel)
theorem w_530 : Cond.instanceMethod yX9_stands ∈ G_ := gt4 134 (by decide +kernel) (by decide +kernel)
theorem w_531 : Cond.selects RX9 yX9_stands yX9_stands ∈ G_ := gt4 135 (by decide +kernel) (by decide +kernel)
theorem w_532 : Cond.code yX9_stands cX9_stands 4 (some (.int)) ∈ G_ := gt4 136 (by decide +kernel) (by decide +kernel)
theorem w_533 : Cond.methodLink RL 63 yX9_faultAt ∈ G_ := gt4 128 (by decide +kernel) (by decide +kernel)
theorem w_534 : Cond.instanceMethod yX9_faultAt ∈ G_ := gt4 129 (by decide +kernel) (by decide +kernel)
theorem w_535 : Cond.selects RX9 yX9_faultAt yX9_faultAt ∈ G_ := gt4 130 (by decide +kernel) (by decide +kernel)
theorem w_536 : Cond.code yX9_faultAt cX9_faultAt 5 (some (.int)) ∈ G_ := gt4 131 (by decide +kernel) (by decide +kernel)
theorem w_537 : Cond.methodLink RL 60 yX9_axle ∈ G_ := gt4 123 (by decide +kernel) (by decide +kernel)
theorem w_538 : Cond.instanceMethod yX9_axle ∈ G_ := gt4 124 (by decide +kernel) (by decide +kernel)
theorem w_539 : Cond.selects RX9 yX9_axle yX9_axle ∈ G_ := gt4 125 (by decide +kernel) (by decide +kernel)
theorem w_540 : Cond.code yX9_axle cX9_axle 4 (some (.int)) ∈ G_ := gt4 126 (by decide +kernel) (by decide +kernel)
theorem w_541 : Cond.methodLink RL 47 yX9_about ∈ G_ := gt4 95 (by decide +kernel) (by decide +kernel)
theorem w_542 : Cond.instanceMethod yX9_about ∈ G_ := gt4 96 (by decide +kernel) (by decide +kernel)
theorem w_543 : Cond.selects RX9 yX9_about yX9_about ∈ G_ := gt4 97 (by decide +kernel) (by decide +kernel)
theorem w_544 : Cond.code yX9_about cX9_about 4 (some (.int)) ∈ G_ := gt4 98 (by decide +kernel) (by decide +kernel)
theorem w_545 : Cond.methodLink RL 57 yX9_whyNot ∈ G_ := gt4 119 (by decide +kernel) (by decide +kernel)
theorem w_546 : Cond.instanceMethod yX9_whyNot ∈ G_ := gt4 120 (by decide +kernel) (by decide +kernel)
theorem w_547 : Cond.selects RX9 yX9_whyNot yX9_whyNot ∈ G_ := gt4 121 (by decide +kernel) (by decide +kernel)
theorem w_548 : Cond.code yX9_whyNot cX9_whyNot 3 (some (.int)) ∈ G_ := gt4 122 (by decide +kernel) (by decide +kernel)
theorem w_549 : Cond.methodLink RL 53 yX9_clock ∈ G_ := gt4 113 (by decide +kernel) (by decide +kernel)
theorem w_550 : Cond.instanceMethod yX9_clock ∈ G_ := gt4 114 (by decide +kernel) (by decide +kernel)
theorem w_551 : Cond.selects RX9 yX9_clock yX9_clock ∈ G_ := gt4 115 (by decide +kernel) (by decide +kernel)
theorem w_552 : Cond.code yX9_clock cX9_clock 5 (some (.int)) ∈ G_ := gt4 116 (by decide +kernel) (by decide +kernel)
theorem w_553 : Cond.methodLink RL 50 yX9_kmAnew ∈ G_ := gt4 104 (by decide +kernel) (by decide +kernel)
theorem w_554 : Cond.instanceMethod yX9_kmAnew ∈ G_ := gt4 105 (by decide +kernel) (by decide +kernel)
theorem w_555 : Cond.selects RX9 yX9_kmAnew yX9_kmAnew ∈ G_ := gt4 106 (by decide +kernel) (by decide +kernel)
theorem w_556 : Cond.code yX9_kmAnew cX9_kmAnew 4 (some (.int)) ∈ G_ := gt4 107 (by decide +kernel) (by decide +kernel)
def l_L_alike_673 : Nat → Wd → Int32 → Int32 → Option ((Int32 ⊕ String) × Wd)
  | 0, _, _, _ => none
  | n + 1, σ, a11, a9 =>
  if (3 : Int32) ≤ a11 then
    gd (a9 = 0 ∨ a9 = 1) <|
    some (.inl a9, σ)
  else
    if a9 = 0 then
      (l_L_alike_673 n) σ (a11 + 1) (0 : Int32)
    else
      bx (f_X9_allocation σ a11) fun v5 σ6 =>
      gd (inb a11 3) <|
      if v5 = (σ6.1 77 0 a11.toNatClampNeg) then
        bx (f_X9_allocationAnew σ6 a11) fun v7 σ8 =>
        if v7 = (σ8.1 77 0 a11.toNatClampNeg) then
          (l_L_alike_673 n) σ8 (a11 + 1) (1 : Int32)
        else
          (l_L_alike_673 n) σ8 (a11 + 1) (0 : Int32)
      else
        (l_L_alike_673 n) σ6 (a11 + 1) (0 : Int32)
def j_L_alike_668 (σ : Wd) (s0 : Int32) : Option ((Int32 ⊕ String) × Wd) :=
  l_L_alike_673 FU σ (0 : Int32) s0
def j_L_alike_667 (σ : Wd) : Option ((Int32 ⊕ String) × Wd) :=
  j_L_alike_668 σ (0 : Int32)
def l_L_alike_547 (k538 : Wd → Int32 → Int32 → Int32 → Option ((Int32 ⊕ String) × Wd)) : Nat → Wd → Int32 → Int32 → Int32 → Int32 → Option ((Int32 ⊕ String) × Wd)
  | 0, _, _, _, _, _ => none
  | n + 1, σ, a11, a10, a9, a7 =>
  gd (inb ((12 : Int32) + a10) 16) <|
  if (σ.1 74 0 ((12 : Int32) + a10).toNatClampNeg) < a11 then
    k538 σ (a10 + 1) a9 a7
  else
    if a9 = 0 then
      (l_L_alike_547 k538 n) σ (a11 + 1) a10 (0 : Int32) a7
    else
      bx (f_X9_stands σ a10 a11) fun v11 σ12 =>
      if a11 = (σ12.1 74 0 ((12 : Int32) + a10).toNatClampNeg) then
        if v11 = (-1 : Int32) then
          (l_L_alike_547 k538 n) σ12 (a11 + 1) a10 (1 : Int32) a7
        else
          (l_L_alike_547 k538 n) σ12 (a11 + 1) a10 (0 : Int32) a7
      else
        gd (inb (((((4 : Int32) * a10) + (σ12.1 74 0 ((12 : Int32) + a10).toNatClampNeg)) - (1 : Int32)) - a11) 16) <|
        if v11 = (σ12.1 74 0 (((((4 : Int32) * a10) + (σ12.1 74 0 ((12 : Int32) + a10).toNatClampNeg)) - (1 : Int32)) - a11).toNatClampNeg) then
          (l_L_alike_547 k538 n) σ12 (a11 + 1) a10 (1 : Int32) a7
        else
          (l_L_alike_547 k538 n) σ12 (a11 + 1) a10 (0 : Int32) a7
def l_L_alike_538 : Nat → Wd → Int32 → Int32 → Int32 → Option ((Int32 ⊕ String) × Wd)
  | 0, _, _, _, _ => none
  | n + 1, σ, a10, a9, a7 =>
  if (3 : Int32) ≤ a10 then
    bx (f_L_allocates σ a7) fun v3 σ4 =>
    if a9 = 0 then
      j_L_alike_667 σ4 
    else
      bx (f_X9_lack σ4) fun v9 σ10 =>
      if v9 = v3 then
        j_L_alike_668 σ10 (1 : Int32)
      else
        j_L_alike_667 σ10 
  else
    l_L_alike_547 (l_L_alike_538 n) FU σ (0 : Int32) a10 a9 a7
def l_L_alike_419 (k19 : Wd → Int32 → Int32 → Int32 → Option ((Int32 ⊕ String) × Wd)) : Nat → Wd → Int32 → Int32 → Int32 → Int32 → Int32 → Option ((Int32 ⊕ String) × Wd)
  | 0, _, _, _, _, _, _ => none
  | n + 1, σ, a13, a9, a11, a10, a7 =>
  gd (inb (a11 + (12 : Int32)) 64) <|
  if (σ.1 71 0 (a11 + (12 : Int32)).toNatClampNeg) ≤ a13 then
    k19 σ (a10 + 1) a9 a7
  else
    bd ((((8 : Int32) * a10) + a13)) fun x13 =>
    if a9 = 0 then
      (l_L_alike_419 k19 n) σ (a13 + 1) (0 : Int32) a11 a10 a7
    else
      bx (f_X9_faultAt σ a10 a13 (0 : Int32)) fun v14 σ15 =>
      gd (inb x13 64) <|
      if v14 = (σ15.1 72 0 x13.toNatClampNeg) then
        bx (f_X9_faultAt σ15 a10 a13 (1 : Int32)) fun v16 σ17 =>
        gd (inb ((32 : Int32) + x13) 64) <|
        if v16 = (σ17.1 72 0 ((32 : Int32) + x13).toNatClampNeg) then
          bx (f_X9_faultAt σ17 a10 a13 (2 : Int32)) fun v18 σ19 =>
          if v18 = (σ19.1 73 0 x13.toNatClampNeg) then
            bx (f_X9_faultAt σ19 a10 a13 (3 : Int32)) fun v20 σ21 =>
            if v20 = (σ21.1 73 0 ((32 : Int32) + x13).toNatClampNeg) then
              (l_L_alike_419 k19 n) σ21 (a13 + 1) (1 : Int32) a11 a10 a7
            else
              (l_L_alike_419 k19 n) σ21 (a13 + 1) (0 : Int32) a11 a10 a7
          else
            (l_L_alike_419 k19 n) σ19 (a13 + 1) (0 : Int32) a11 a10 a7
        else
          (l_L_alike_419 k19 n) σ17 (a13 + 1) (0 : Int32) a11 a10 a7
      else
        (l_L_alike_419 k19 n) σ15 (a13 + 1) (0 : Int32) a11 a10 a7
def l_L_alike_372 (k19 : Wd → Int32 → Int32 → Int32 → Option ((Int32 ⊕ String) × Wd)) : Nat → Wd → Int32 → Int32 → Int32 → Int32 → Int32 → Option ((Int32 ⊕ String) × Wd)
  | 0, _, _, _, _, _, _ => none
  | n + 1, σ, a13, a9, a11, a10, a7 =>
  if (4 : Int32) ≤ a13 then
    l_L_alike_419 k19 FU σ (0 : Int32) a9 a11 a10 a7
  else
    if a9 = 0 then
      (l_L_alike_372 k19 n) σ (a13 + 1) (0 : Int32) a11 a10 a7
    else
      bx (f_X9_axle σ a10 a13) fun v22 σ23 =>
      gd (inb ((a11 + (2 : Int32)) + a13) 64) <|
      if v22 = (σ23.1 71 0 ((a11 + (2 : Int32)) + a13).toNatClampNeg) then
        (l_L_alike_372 k19 n) σ23 (a13 + 1) (1 : Int32) a11 a10 a7
      else
        (l_L_alike_372 k19 n) σ23 (a13 + 1) (0 : Int32) a11 a10 a7
def j_L_alike_367 (k19 : Wd → Int32 → Int32 → Int32 → Option ((Int32 ⊕ String) × Wd)) (σ : Wd) (a11 : Int32) (a10 : Int32) (a7 : Int32) (s0 : Int32) : Option ((Int32 ⊕ String) × Wd) :=
  l_L_alike_372 k19 FU σ (0 : Int32) s0 a11 a10 a7
def j_L_alike_366 (k19 : Wd → Int32 → Int32 → Int32 → Option ((Int32 ⊕ String) × Wd)) (σ : Wd) (a11 : Int32) (a10 : Int32) (a7 : Int32) : Option ((Int32 ⊕ String) × Wd) :=
  j_L_alike_367 k19 σ a11 a10 a7 (0 : Int32)
def j_L_alike_297 (k169 : Wd → Int32 → Int32 → Int32 → Int32 → Int32 → Int32 → Option ((Int32 ⊕ String) × Wd)) (σ : Wd) (a9 : Int32) (a13 : Int32) (a11 : Int32) (a10 : Int32) (a7 : Int32) (s0 : Int32) (s1 : Int32) : Option ((Int32 ⊕ String) × Wd) :=
  if a9 = 0 then
    k169 σ (a13 + 1) (s1 + s0) (0 : Int32) a11 a10 a7
  else
    bx (f_X9_whyNot σ a10 a13) fun v26 σ27 =>
    bx (f_L_why σ27 a10 a13 a7) fun v28 σ29 =>
    if v26 = v28 then
      k169 σ29 (a13 + 1) (s1 + s0) (1 : Int32) a11 a10 a7
    else
      k169 σ29 (a13 + 1) (s1 + s0) (0 : Int32) a11 a10 a7
def j_L_alike_289 (k169 : Wd → Int32 → Int32 → Int32 → Int32 → Int32 → Int32 → Option ((Int32 ⊕ String) × Wd)) (σ : Wd) (a9 : Int32) (a13 : Int32) (a11 : Int32) (a10 : Int32) (a7 : Int32) (s0 : Int32) : Option ((Int32 ⊕ String) × Wd) :=
  j_L_alike_297 k169 σ a9 a13 a11 a10 a7 ((1 : Int32) <<< (a13 &&& 31)) s0
def j_L_alike_229 (k169 : Wd → Int32 → Int32 → Int32 → Int32 → Int32 → Int32 → Option ((Int32 ⊕ String) × Wd)) (σ : Wd) (a13 : Int32) (a12 : Int32) (a11 : Int32) (a10 : Int32) (a7 : Int32) (s0 : Int32) : Option ((Int32 ⊕ String) × Wd) :=
  gd (inb ((a11 + (6 : Int32)) + a13) 64) <|
  gd (inb a13 17) <|
  gd (inb ((3 : Int32) + a13) 17) <|
  if ((σ.1 76 0 a13.toNatClampNeg) + (((σ.1 76 0 a13.toNatClampNeg) * (σ.1 76 0 ((3 : Int32) + a13).toNatClampNeg)) / (100 : Int32))) < (σ.1 71 0 ((a11 + (6 : Int32)) + a13).toNatClampNeg) then
    j_L_alike_289 k169 σ s0 a13 a11 a10 a7 a12
  else
    gd (inb ((a11 + (9 : Int32)) + a13) 64) <|
    gd (inb ((6 : Int32) + a13) 17) <|
    if (σ.1 71 0 ((a11 + (9 : Int32)) + a13).toNatClampNeg) ≤ (σ.1 76 0 ((6 : Int32) + a13).toNatClampNeg) then
      j_L_alike_297 k169 σ s0 a13 a11 a10 a7 (0 : Int32) a12
    else
      j_L_alike_289 k169 σ s0 a13 a11 a10 a7 a12
def j_L_alike_228 (k169 : Wd → Int32 → Int32 → Int32 → Int32 → Int32 → Int32 → Option ((Int32 ⊕ String) × Wd)) (σ : Wd) (a13 : Int32) (a12 : Int32) (a11 : Int32) (a10 : Int32) (a7 : Int32) : Option ((Int32 ⊕ String) × Wd) :=
  j_L_alike_229 k169 σ a13 a12 a11 a10 a7 (0 : Int32)
def l_L_alike_169 (k19 : Wd → Int32 → Int32 → Int32 → Option ((Int32 ⊕ String) × Wd)) : Nat → Wd → Int32 → Int32 → Int32 → Int32 → Int32 → Int32 → Option ((Int32 ⊕ String) × Wd)
  | 0, _, _, _, _, _, _, _ => none
  | n + 1, σ, a13, a12, a9, a11, a10, a7 =>
  if (3 : Int32) ≤ a13 then
    if a9 = 0 then
      j_L_alike_366 k19 σ a11 a10 a7
    else
      bx (f_X9_about σ a10 (5 : Int32)) fun v24 σ25 =>
      if v24 = a12 then
        j_L_alike_367 k19 σ25 a11 a10 a7 (1 : Int32)
      else
        j_L_alike_366 k19 σ25 a11 a10 a7
  else
    if a9 = 0 then
      j_L_alike_228 (l_L_alike_169 k19 n) σ a13 a12 a11 a10 a7
    else
      bx (f_X9_clock σ a10 a13 (0 : Int32)) fun v30 σ31 =>
      gd (inb ((a11 + (6 : Int32)) + a13) 64) <|
      if v30 = (σ31.1 71 0 ((a11 + (6 : Int32)) + a13).toNatClampNeg) then
        bx (f_X9_clock σ31 a10 a13 (1 : Int32)) fun v32 σ33 =>
        gd (inb ((a11 + (9 : Int32)) + a13) 64) <|
        if v32 = (σ33.1 71 0 ((a11 + (9 : Int32)) + a13).toNatClampNeg) then
          j_L_alike_229 (l_L_alike_169 k19 n) σ33 a13 a12 a11 a10 a7 (1 : Int32)
        else
          j_L_alike_228 (l_L_alike_169 k19 n) σ33 a13 a12 a11 a10 a7
      else
        j_L_alike_228 (l_L_alike_169 k19 n) σ31 a13 a12 a11 a10 a7
def j_L_alike_161 (k19 : Wd → Int32 → Int32 → Int32 → Option ((Int32 ⊕ String) × Wd)) (σ : Wd) (a11 : Int32) (a10 : Int32) (a7 : Int32) (s0 : Int32) : Option ((Int32 ⊕ String) × Wd) :=
  l_L_alike_169 k19 FU σ (0 : Int32) (0 : Int32) s0 a11 a10 a7
def j_L_alike_160 (k19 : Wd → Int32 → Int32 → Int32 → Option ((Int32 ⊕ String) × Wd)) (σ : Wd) (a11 : Int32) (a10 : Int32) (a7 : Int32) : Option ((Int32 ⊕ String) × Wd) :=
  j_L_alike_161 k19 σ a11 a10 a7 (0 : Int32)
def j_L_alike_153 (k19 : Wd → Int32 → Int32 → Int32 → Option ((Int32 ⊕ String) × Wd)) (σ : Wd) (a11 : Int32) (a10 : Int32) (a7 : Int32) (s0 : Int32) (s1 : Int32) : Option ((Int32 ⊕ String) × Wd) :=
  if s1 = s0 then
    j_L_alike_161 k19 σ a11 a10 a7 (1 : Int32)
  else
    j_L_alike_160 k19 σ a11 a10 a7
def l_L_alike_19 : Nat → Wd → Int32 → Int32 → Int32 → Option ((Int32 ⊕ String) × Wd)
  | 0, _, _, _, _ => none
  | n + 1, σ, a10, a9, a7 =>
  if (4 : Int32) ≤ a10 then
    l_L_alike_538 FU σ (0 : Int32) a9 a7
  else
    if a9 = 0 then
      j_L_alike_160 (l_L_alike_19 n) σ ((16 : Int32) * a10) a10 a7
    else
      bx (f_X9_about σ a10 (0 : Int32)) fun v34 σ35 =>
      gd (inb ((16 : Int32) * a10) 64) <|
      if v34 = (σ35.1 71 0 ((16 : Int32) * a10).toNatClampNeg) then
        bx (f_X9_about σ35 a10 (1 : Int32)) fun v36 σ37 =>
        gd (inb (((16 : Int32) * a10) + (1 : Int32)) 64) <|
        if v36 = (σ37.1 71 0 (((16 : Int32) * a10) + (1 : Int32)).toNatClampNeg) then
          bx (f_X9_kmAnew σ37 a10) fun v38 σ39 =>
          if v38 = (σ39.1 71 0 (((16 : Int32) * a10) + (1 : Int32)).toNatClampNeg) then
            bx (f_X9_about σ39 a10 (2 : Int32)) fun v40 σ41 =>
            gd (inb (((16 : Int32) * a10) + (12 : Int32)) 64) <|
            if v40 = (σ41.1 71 0 (((16 : Int32) * a10) + (12 : Int32)).toNatClampNeg) then
              bx (f_X9_about σ41 a10 (3 : Int32)) fun v42 σ43 =>
              gd (inb ((12 : Int32) + (σ43.1 71 0 ((16 : Int32) * a10).toNatClampNeg)) 16) <|
              bx (f_L_place σ43 a10) fun v44 σ45 =>
              if v42 = (((σ43.1 74 0 ((12 : Int32) + (σ43.1 71 0 ((16 : Int32) * a10).toNatClampNeg)).toNatClampNeg) - (1 : Int32)) - v44) then
                bx (f_X9_about σ45 a10 (4 : Int32)) fun v46 σ47 =>
                bx (f_L_soon σ47 a10) fun v48 σ49 =>
                if v48 = 0 then
                  j_L_alike_153 (l_L_alike_19 n) σ49 ((16 : Int32) * a10) a10 a7 (0 : Int32) v46
                else
                  j_L_alike_153 (l_L_alike_19 n) σ49 ((16 : Int32) * a10) a10 a7 (1 : Int32) v46
              else
                j_L_alike_160 (l_L_alike_19 n) σ45 ((16 : Int32) * a10) a10 a7
            else
              j_L_alike_160 (l_L_alike_19 n) σ41 ((16 : Int32) * a10) a10 a7
          else
            j_L_alike_160 (l_L_alike_19 n) σ39 ((16 : Int32) * a10) a10 a7
        else
          j_L_alike_160 (l_L_alike_19 n) σ37 ((16 : Int32) * a10) a10 a7
      else
        j_L_alike_160 (l_L_alike_19 n) σ35 ((16 : Int32) * a10) a10 a7
def j_L_alike_14 (σ : Wd) (a7 : Int32) (s0 : Int32) : Option ((Int32 ⊕ String) × Wd) :=
  l_L_alike_19 FU σ (0 : Int32) s0 a7
def f_L_alike (σ : Wd) (p7 : Int32) : Option ((Int32 ⊕ String) × Wd) :=
  bx (f_X9_today σ) fun v1 σ2 =>
  if v1 = p7 then
    j_L_alike_14 σ2 p7 (1 : Int32)
  else
    j_L_alike_14 σ2 p7 (0 : Int32)
theorem bl_L_alike_673 (X : Xt) (hst : X.1.stackTraces = false) (ad : Ad) : ∀ (n : Nat) (σ : Wd) (a11 : Int32) (a9 : Int32), Bk X (fun a => a = ad) cL_alike 15 RL (some (.boolean)) 11 199 vI (0, 0) (0, 0) ad σ 673 [(11, .int a11), (9, .int a9), (0, .ref (ad 0 0)), (8, .ref (ad 77 0))] [] (l_L_alike_673 n σ a11 a9) := by
  intro n
  induction n with
  | zero => intros; exact r_none
  | succ n ih =>
  intro σ a11 a9
  rw [l_L_alike_673]
  refine r_iload 0 rfl dL_alike_673 ?_
  refine r_iconst (3) (by decide) dL_alike_675 ?_
  refine r_icmp_ge 725 dL_alike_676 (by decide) ?_ ?_
  · refine r_iload 1 rfl dL_alike_725 ?_
    refine r_gd (fun h1 => ?_)
    exact r_zret rfl rfl (zn h1) rfl dL_alike_727
  · refine r_iload 1 rfl dL_alike_679 ?_
    refine r_if_eq 716 dL_alike_681 (by decide) ?_ ?_
    · refine r_iconst (0) (by decide) dL_alike_716 ?_
      refine r_istore [(9, .int _), (11, .int _), (0, .ref _), (8, .ref _)] rfl (by decide) dL_alike_717 ?_
      refine r_iinc (1) [(11, .int _), (9, .int _), (0, .ref _), (8, .ref _)] 1 rfl (by decide) rfl (by decide) dL_alike_719 ?_
      refine r_goto 673 dL_alike_722 (by decide) ?_
      exact r_sub [0, 1, 2, 3] rfl (ih _ _ _)
    · refine r_aload_n 2 rfl dL_alike_684 ?_
      refine r_iload 0 rfl dL_alike_685 ?_
      refine r_callV (n := 1) (As := [.int _]) (cell_0 _ _ _ _) (lvs_0 _) rfl (nc_X9_allocation X hst ad _ _) (fun _ h => h) rfl ⟨rfl, by decide, by decide, by decide +kernel⟩ w_517 w_518 w_519 w_203 w_520 rfl rfl (Nat.le_of_ble_eq_true rfl) ⟨by decide, by decide⟩ dL_alike_687 (fun v5 σ6 => ?_)
      refine r_aload 3 rfl dL_alike_690 ?_
      refine r_iload 0 rfl dL_alike_692 ?_
      refine r_gd (fun h2 => ?_)
      refine r_iaload (lvs_77 _) (cell_77 _ _ _ _) h2 dL_alike_694 ?_
      refine r_icmp_ne 716 dL_alike_695 (by decide) ?_ ?_
      · refine r_aload_n 2 rfl dL_alike_698 ?_
        refine r_iload 0 rfl dL_alike_699 ?_
        refine r_callV (n := 1) (As := [.int _]) (cell_0 _ _ _ _) (lvs_0 _) rfl (nc_X9_allocationAnew X hst ad _ _) (fun _ h => h) rfl ⟨rfl, by decide, by decide, by decide +kernel⟩ w_521 w_522 w_523 w_203 w_524 rfl rfl (Nat.le_of_ble_eq_true rfl) ⟨by decide, by decide⟩ dL_alike_701 (fun v7 σ8 => ?_)
        refine r_aload 3 rfl dL_alike_704 ?_
        refine r_iload 0 rfl dL_alike_706 ?_
        refine r_iaload (lvs_77 _) (cell_77 _ _ _ _) h2 dL_alike_708 ?_
        refine r_icmp_ne 716 dL_alike_709 (by decide) ?_ ?_
        · refine r_iconst (1) (by decide) dL_alike_712 ?_
          refine r_goto 717 dL_alike_713 (by decide) ?_
          refine r_istore [(9, .int _), (11, .int _), (0, .ref _), (8, .ref _)] rfl (by decide) dL_alike_717 ?_
          refine r_iinc (1) [(11, .int _), (9, .int _), (0, .ref _), (8, .ref _)] 1 rfl (by decide) rfl (by decide) dL_alike_719 ?_
          refine r_goto 673 dL_alike_722 (by decide) ?_
          exact r_sub [0, 1, 2, 3] rfl (ih _ _ _)
        · refine r_iconst (0) (by decide) dL_alike_716 ?_
          refine r_istore [(9, .int _), (11, .int _), (0, .ref _), (8, .ref _)] rfl (by decide) dL_alike_717 ?_
          refine r_iinc (1) [(11, .int _), (9, .int _), (0, .ref _), (8, .ref _)] 1 rfl (by decide) rfl (by decide) dL_alike_719 ?_
          refine r_goto 673 dL_alike_722 (by decide) ?_
          exact r_sub [0, 1, 2, 3] rfl (ih _ _ _)
      · refine r_iconst (0) (by decide) dL_alike_716 ?_
        refine r_istore [(9, .int _), (11, .int _), (0, .ref _), (8, .ref _)] rfl (by decide) dL_alike_717 ?_
        refine r_iinc (1) [(11, .int _), (9, .int _), (0, .ref _), (8, .ref _)] 1 rfl (by decide) rfl (by decide) dL_alike_719 ?_
        refine r_goto 673 dL_alike_722 (by decide) ?_
        exact r_sub [0, 1, 2, 3] rfl (ih _ _ _)
theorem bj_L_alike_668 (X : Xt) (hst : X.1.stackTraces = false) (ad : Ad) (σ : Wd) (s0 : Int32) : Bk X (fun a => a = ad) cL_alike 15 RL (some (.boolean)) 11 199 vI (0, 0) (0, 0) ad σ 668 [(0, .ref (ad 0 0)), (8, .ref (ad 77 0))] [.int s0] (j_L_alike_668 σ s0) := by
  unfold j_L_alike_668
  refine r_istore [(9, .int _), (0, .ref _), (8, .ref _)] rfl (by decide) dL_alike_668 ?_
  refine r_iconst (0) (by decide) dL_alike_670 ?_
  refine r_istore [(11, .int _), (9, .int _), (0, .ref _), (8, .ref _)] rfl (by decide) dL_alike_671 ?_
  exact r_sub [0, 1, 2, 3] rfl ((bl_L_alike_673 X hst ad FU) _ _ _)
theorem bj_L_alike_667 (X : Xt) (hst : X.1.stackTraces = false) (ad : Ad) (σ : Wd) : Bk X (fun a => a = ad) cL_alike 15 RL (some (.boolean)) 11 199 vI (0, 0) (0, 0) ad σ 667 [(0, .ref (ad 0 0)), (8, .ref (ad 77 0))] [] (j_L_alike_667 σ ) := by
  unfold j_L_alike_667
  refine r_iconst (0) (by decide) dL_alike_667 ?_
  exact r_sub [0, 1] rfl ((bj_L_alike_668 X hst ad) _ _)
theorem bl_L_alike_547 (X : Xt) (hst : X.1.stackTraces = false) (ad : Ad) {k538 : Wd → Int32 → Int32 → Int32 → Option ((Int32 ⊕ String) × Wd)} (hk538 : ∀ (σ : Wd) (a10 : Int32) (a9 : Int32) (a7 : Int32), Bk X (fun a => a = ad) cL_alike 15 RL (some (.boolean)) 11 199 vI (0, 0) (0, 0) ad σ 538 [(10, .int a10), (9, .int a9), (0, .ref (ad 0 0)), (1, .ref (ad 71 0)), (2, .ref (ad 72 0)), (3, .ref (ad 73 0)), (4, .ref (ad 74 0)), (5, .ref (ad 75 0)), (6, .ref (ad 76 0)), (7, .int a7), (8, .ref (ad 77 0))] [] (k538 σ a10 a9 a7)) : ∀ (n : Nat) (σ : Wd) (a11 : Int32) (a10 : Int32) (a9 : Int32) (a7 : Int32), Bk X (fun a => a = ad) cL_alike 15 RL (some (.boolean)) 11 199 vI (0, 0) (0, 0) ad σ 547 [(11, .int a11), (10, .int a10), (9, .int a9), (0, .ref (ad 0 0)), (1, .ref (ad 71 0)), (2, .ref (ad 72 0)), (3, .ref (ad 73 0)), (4, .ref (ad 74 0)), (5, .ref (ad 75 0)), (6, .ref (ad 76 0)), (7, .int a7), (8, .ref (ad 77 0))] [] (l_L_alike_547 k538 n σ a11 a10 a9 a7) := by
  intro n
  induction n with
  | zero => intros; exact r_none
  | succ n ih =>
  intro σ a11 a10 a9 a7
  rw [l_L_alike_547]
  refine r_iload 0 rfl dL_alike_547 ?_
  refine r_aload 7 rfl dL_alike_549 ?_
  refine r_bipush (12) (by decide) dL_alike_551 ?_
  refine r_iload 1 rfl dL_alike_553 ?_
  refine r_iadd dL_alike_555 ?_
  refine r_gd (fun h3 => ?_)
  refine r_iaload (lvs_74 _) (cell_74 _ _ _ _) h3 dL_alike_556 ?_
  refine r_icmp_gt 627 dL_alike_557 (by decide) ?_ ?_
  · refine r_iinc (1) [(10, .int _), (11, .int _), (9, .int _), (0, .ref _), (1, .ref _), (2, .ref _), (3, .ref _), (4, .ref _), (5, .ref _), (6, .ref _), (7, .int _), (8, .ref _)] 1 rfl (by decide) rfl (by decide) dL_alike_627 ?_
    refine r_goto 538 dL_alike_630 (by decide) ?_
    exact r_sub [0, 2, 3, 4, 5, 6, 7, 8, 9, 10, 11] rfl (hk538 _ _ _ _)
  · refine r_iload 2 rfl dL_alike_560 ?_
    refine r_if_eq 618 dL_alike_562 (by decide) ?_ ?_
    · refine r_iconst (0) (by decide) dL_alike_618 ?_
      refine r_istore [(9, .int _), (11, .int _), (10, .int _), (0, .ref _), (1, .ref _), (2, .ref _), (3, .ref _), (4, .ref _), (5, .ref _), (6, .ref _), (7, .int _), (8, .ref _)] rfl (by decide) dL_alike_619 ?_
      refine r_iinc (1) [(11, .int _), (9, .int _), (10, .int _), (0, .ref _), (1, .ref _), (2, .ref _), (3, .ref _), (4, .ref _), (5, .ref _), (6, .ref _), (7, .int _), (8, .ref _)] 1 rfl (by decide) rfl (by decide) dL_alike_621 ?_
      refine r_goto 547 dL_alike_624 (by decide) ?_
      exact r_sub [0, 2, 1, 3, 4, 5, 6, 7, 8, 9, 10, 11] rfl (ih _ _ _ _ _)
    · refine r_aload_n 3 rfl dL_alike_565 ?_
      refine r_iload 1 rfl dL_alike_566 ?_
      refine r_iload 0 rfl dL_alike_568 ?_
      refine r_callV (n := 2) (As := [.int _, .int _]) (cell_0 _ _ _ _) (lvs_0 _) rfl (nc_X9_stands X hst ad _ _ _) (fun _ h => h) rfl ⟨rfl, by decide, by decide, by decide +kernel⟩ w_529 w_530 w_531 w_203 w_532 rfl rfl (Nat.le_of_ble_eq_true rfl) ⟨by decide, by decide⟩ dL_alike_570 (fun v11 σ12 => ?_)
      refine r_iload 0 rfl dL_alike_573 ?_
      refine r_aload 7 rfl dL_alike_575 ?_
      refine r_bipush (12) (by decide) dL_alike_577 ?_
      refine r_iload 1 rfl dL_alike_579 ?_
      refine r_iadd dL_alike_581 ?_
      refine r_iaload (lvs_74 _) (cell_74 _ _ _ _) h3 dL_alike_582 ?_
      refine r_icmp_ne 590 dL_alike_583 (by decide) ?_ ?_
      · refine r_iconst (-1) (by decide) dL_alike_586 ?_
        refine r_goto 611 dL_alike_587 (by decide) ?_
        refine r_icmp_ne 618 dL_alike_611 (by decide) ?_ ?_
        · refine r_iconst (1) (by decide) dL_alike_614 ?_
          refine r_goto 619 dL_alike_615 (by decide) ?_
          refine r_istore [(9, .int _), (11, .int _), (10, .int _), (0, .ref _), (1, .ref _), (2, .ref _), (3, .ref _), (4, .ref _), (5, .ref _), (6, .ref _), (7, .int _), (8, .ref _)] rfl (by decide) dL_alike_619 ?_
          refine r_iinc (1) [(11, .int _), (9, .int _), (10, .int _), (0, .ref _), (1, .ref _), (2, .ref _), (3, .ref _), (4, .ref _), (5, .ref _), (6, .ref _), (7, .int _), (8, .ref _)] 1 rfl (by decide) rfl (by decide) dL_alike_621 ?_
          refine r_goto 547 dL_alike_624 (by decide) ?_
          exact r_sub [0, 2, 1, 3, 4, 5, 6, 7, 8, 9, 10, 11] rfl (ih _ _ _ _ _)
        · refine r_iconst (0) (by decide) dL_alike_618 ?_
          refine r_istore [(9, .int _), (11, .int _), (10, .int _), (0, .ref _), (1, .ref _), (2, .ref _), (3, .ref _), (4, .ref _), (5, .ref _), (6, .ref _), (7, .int _), (8, .ref _)] rfl (by decide) dL_alike_619 ?_
          refine r_iinc (1) [(11, .int _), (9, .int _), (10, .int _), (0, .ref _), (1, .ref _), (2, .ref _), (3, .ref _), (4, .ref _), (5, .ref _), (6, .ref _), (7, .int _), (8, .ref _)] 1 rfl (by decide) rfl (by decide) dL_alike_621 ?_
          refine r_goto 547 dL_alike_624 (by decide) ?_
          exact r_sub [0, 2, 1, 3, 4, 5, 6, 7, 8, 9, 10, 11] rfl (ih _ _ _ _ _)
      · refine r_aload 7 rfl dL_alike_590 ?_
        refine r_iconst (4) (by decide) dL_alike_592 ?_
        refine r_iload 1 rfl dL_alike_593 ?_
        refine r_imul dL_alike_595 ?_
        refine r_aload 7 rfl dL_alike_596 ?_
        refine r_bipush (12) (by decide) dL_alike_598 ?_
        refine r_iload 1 rfl dL_alike_600 ?_
        refine r_iadd dL_alike_602 ?_
        refine r_iaload (lvs_74 _) (cell_74 _ _ _ _) h3 dL_alike_603 ?_
        refine r_iadd dL_alike_604 ?_
        refine r_iconst (1) (by decide) dL_alike_605 ?_
        refine r_isub dL_alike_606 ?_
        refine r_iload 0 rfl dL_alike_607 ?_
        refine r_isub dL_alike_609 ?_
        refine r_gd (fun h4 => ?_)
        refine r_iaload (lvs_74 _) (cell_74 _ _ _ _) h4 dL_alike_610 ?_
        refine r_icmp_ne 618 dL_alike_611 (by decide) ?_ ?_
        · refine r_iconst (1) (by decide) dL_alike_614 ?_
          refine r_goto 619 dL_alike_615 (by decide) ?_
          refine r_istore [(9, .int _), (11, .int _), (10, .int _), (0, .ref _), (1, .ref _), (2, .ref _), (3, .ref _), (4, .ref _), (5, .ref _), (6, .ref _), (7, .int _), (8, .ref _)] rfl (by decide) dL_alike_619 ?_
          refine r_iinc (1) [(11, .int _), (9, .int _), (10, .int _), (0, .ref _), (1, .ref _), (2, .ref _), (3, .ref _), (4, .ref _), (5, .ref _), (6, .ref _), (7, .int _), (8, .ref _)] 1 rfl (by decide) rfl (by decide) dL_alike_621 ?_
          refine r_goto 547 dL_alike_624 (by decide) ?_
          exact r_sub [0, 2, 1, 3, 4, 5, 6, 7, 8, 9, 10, 11] rfl (ih _ _ _ _ _)
        · refine r_iconst (0) (by decide) dL_alike_618 ?_
          refine r_istore [(9, .int _), (11, .int _), (10, .int _), (0, .ref _), (1, .ref _), (2, .ref _), (3, .ref _), (4, .ref _), (5, .ref _), (6, .ref _), (7, .int _), (8, .ref _)] rfl (by decide) dL_alike_619 ?_
          refine r_iinc (1) [(11, .int _), (9, .int _), (10, .int _), (0, .ref _), (1, .ref _), (2, .ref _), (3, .ref _), (4, .ref _), (5, .ref _), (6, .ref _), (7, .int _), (8, .ref _)] 1 rfl (by decide) rfl (by decide) dL_alike_621 ?_
          refine r_goto 547 dL_alike_624 (by decide) ?_
          exact r_sub [0, 2, 1, 3, 4, 5, 6, 7, 8, 9, 10, 11] rfl (ih _ _ _ _ _)
theorem bl_L_alike_538 (X : Xt) (hst : X.1.stackTraces = false) (ad : Ad) : ∀ (n : Nat) (σ : Wd) (a10 : Int32) (a9 : Int32) (a7 : Int32), Bk X (fun a => a = ad) cL_alike 15 RL (some (.boolean)) 11 199 vI (0, 0) (0, 0) ad σ 538 [(10, .int a10), (9, .int a9), (0, .ref (ad 0 0)), (1, .ref (ad 71 0)), (2, .ref (ad 72 0)), (3, .ref (ad 73 0)), (4, .ref (ad 74 0)), (5, .ref (ad 75 0)), (6, .ref (ad 76 0)), (7, .int a7), (8, .ref (ad 77 0))] [] (l_L_alike_538 n σ a10 a9 a7) := by
  intro n
  induction n with
  | zero => intros; exact r_none
  | succ n ih =>
  intro σ a10 a9 a7
  rw [l_L_alike_538]
  refine r_iload 0 rfl dL_alike_538 ?_
  refine r_iconst (3) (by decide) dL_alike_540 ?_
  refine r_icmp_ge 633 dL_alike_541 (by decide) ?_ ?_
  · refine r_aload_n 3 rfl dL_alike_633 ?_
    refine r_aload_n 4 rfl dL_alike_634 ?_
    refine r_aload_n 5 rfl dL_alike_635 ?_
    refine r_aload 7 rfl dL_alike_636 ?_
    refine r_aload 8 rfl dL_alike_638 ?_
    refine r_iload 9 rfl dL_alike_640 ?_
    refine r_aload 10 rfl dL_alike_642 ?_
    refine r_callS (n := 7) (As := [.ref _, .ref _, .ref _, .ref _, .ref _, .int _, .ref _]) (nc_L_allocates X hst ad _ _) (fun _ h => h) rfl ⟨by decide, by decide, by decide +kernel⟩ w_514 w_515 w_502 w_516 rfl rfl (Nat.le_of_ble_eq_true rfl) ⟨by decide, by decide⟩ dL_alike_644 (fun v3 σ4 => ?_)
    refine r_istore [(10, .int _), (9, .int _), (0, .ref _), (1, .ref _), (2, .ref _), (3, .ref _), (4, .ref _), (5, .ref _), (6, .ref _), (7, .int _), (8, .ref _)] rfl (by decide) dL_alike_647 ?_
    refine r_iload 1 rfl dL_alike_649 ?_
    refine r_if_eq 667 dL_alike_651 (by decide) ?_ ?_
    · exact r_sub [2, 10] rfl ((bj_L_alike_667 X hst ad) _)
    · refine r_aload_n 2 rfl dL_alike_654 ?_
      refine r_callV (n := 0) (As := []) (cell_0 _ _ _ _) (lvs_0 _) rfl (nc_X9_lack X hst ad _) (fun _ h => h) rfl ⟨rfl, by decide, by decide, by decide +kernel⟩ w_525 w_526 w_527 w_203 w_528 rfl rfl (Nat.le_of_ble_eq_true rfl) ⟨by decide, by decide⟩ dL_alike_655 (fun v9 σ10 => ?_)
      refine r_iload 0 rfl dL_alike_658 ?_
      refine r_icmp_ne 667 dL_alike_660 (by decide) ?_ ?_
      · refine r_iconst (1) (by decide) dL_alike_663 ?_
        refine r_goto 668 dL_alike_664 (by decide) ?_
        exact r_sub [2, 10] rfl ((bj_L_alike_668 X hst ad) _ _)
      · exact r_sub [2, 10] rfl ((bj_L_alike_667 X hst ad) _)
  · refine r_iconst (0) (by decide) dL_alike_544 ?_
    refine r_istore [(11, .int _), (10, .int _), (9, .int _), (0, .ref _), (1, .ref _), (2, .ref _), (3, .ref _), (4, .ref _), (5, .ref _), (6, .ref _), (7, .int _), (8, .ref _)] rfl (by decide) dL_alike_545 ?_
    exact r_sub [0, 1, 2, 3, 4, 5, 6, 7, 8, 9, 10, 11] rfl ((bl_L_alike_547 X hst ad ih FU) _ _ _ _ _)
theorem bl_L_alike_419 (X : Xt) (hst : X.1.stackTraces = false) (ad : Ad) {k19 : Wd → Int32 → Int32 → Int32 → Option ((Int32 ⊕ String) × Wd)} (hk19 : ∀ (σ : Wd) (a10 : Int32) (a9 : Int32) (a7 : Int32), Bk X (fun a => a = ad) cL_alike 15 RL (some (.boolean)) 11 199 vI (0, 0) (0, 0) ad σ 19 [(10, .int a10), (9, .int a9), (0, .ref (ad 0 0)), (1, .ref (ad 71 0)), (2, .ref (ad 72 0)), (3, .ref (ad 73 0)), (4, .ref (ad 74 0)), (5, .ref (ad 75 0)), (6, .ref (ad 76 0)), (7, .int a7), (8, .ref (ad 77 0))] [] (k19 σ a10 a9 a7)) : ∀ (n : Nat) (σ : Wd) (a13 : Int32) (a9 : Int32) (a11 : Int32) (a10 : Int32) (a7 : Int32), Bk X (fun a => a = ad) cL_alike 15 RL (some (.boolean)) 11 199 vI (0, 0) (0, 0) ad σ 419 [(13, .int a13), (9, .int a9), (11, .int a11), (10, .int a10), (0, .ref (ad 0 0)), (1, .ref (ad 71 0)), (2, .ref (ad 72 0)), (3, .ref (ad 73 0)), (4, .ref (ad 74 0)), (5, .ref (ad 75 0)), (6, .ref (ad 76 0)), (7, .int a7), (8, .ref (ad 77 0))] [] (l_L_alike_419 k19 n σ a13 a9 a11 a10 a7) := by
  intro n
  induction n with
  | zero => intros; exact r_none
  | succ n ih =>
  intro σ a13 a9 a11 a10 a7
  rw [l_L_alike_419]
  refine r_iload 0 rfl dL_alike_419 ?_
  refine r_aload_n 5 rfl dL_alike_421 ?_
  refine r_iload 2 rfl dL_alike_422 ?_
  refine r_bipush (12) (by decide) dL_alike_424 ?_
  refine r_iadd dL_alike_426 ?_
  refine r_gd (fun h5 => ?_)
  refine r_iaload (lvs_71 _) (cell_71 _ _ _ _) h5 dL_alike_427 ?_
  refine r_icmp_ge 529 dL_alike_428 (by decide) ?_ ?_
  · refine r_iinc (1) [(10, .int _), (13, .int _), (9, .int _), (11, .int _), (0, .ref _), (1, .ref _), (2, .ref _), (3, .ref _), (4, .ref _), (5, .ref _), (6, .ref _), (7, .int _), (8, .ref _)] 3 rfl (by decide) rfl (by decide) dL_alike_529 ?_
    refine r_goto 19 dL_alike_532 (by decide) ?_
    exact r_sub [0, 2, 4, 5, 6, 7, 8, 9, 10, 11, 12] rfl (hk19 _ _ _ _)
  · refine r_bipush (8) (by decide) dL_alike_431 ?_
    refine r_iload 3 rfl dL_alike_433 ?_
    refine r_imul dL_alike_435 ?_
    refine r_iload 0 rfl dL_alike_436 ?_
    refine r_iadd dL_alike_438 ?_
    refine r_bd ?_
    refine r_istore [(14, .int _), (13, .int _), (9, .int _), (11, .int _), (10, .int _), (0, .ref _), (1, .ref _), (2, .ref _), (3, .ref _), (4, .ref _), (5, .ref _), (6, .ref _), (7, .int _), (8, .ref _)] rfl (by decide) dL_alike_439 ?_
    refine r_iload 2 rfl dL_alike_441 ?_
    refine r_if_eq 520 dL_alike_443 (by decide) ?_ ?_
    · refine r_iconst (0) (by decide) dL_alike_520 ?_
      refine r_istore [(9, .int _), (14, .int _), (13, .int _), (11, .int _), (10, .int _), (0, .ref _), (1, .ref _), (2, .ref _), (3, .ref _), (4, .ref _), (5, .ref _), (6, .ref _), (7, .int _), (8, .ref _)] rfl (by decide) dL_alike_521 ?_
      refine r_iinc (1) [(13, .int _), (9, .int _), (14, .int _), (11, .int _), (10, .int _), (0, .ref _), (1, .ref _), (2, .ref _), (3, .ref _), (4, .ref _), (5, .ref _), (6, .ref _), (7, .int _), (8, .ref _)] 2 rfl (by decide) rfl (by decide) dL_alike_523 ?_
      refine r_goto 419 dL_alike_526 (by decide) ?_
      exact r_sub [0, 1, 3, 4, 5, 6, 7, 8, 9, 10, 11, 12, 13] rfl (ih _ _ _ _ _ _)
    · refine r_aload_n 5 rfl dL_alike_446 ?_
      refine r_iload 4 rfl dL_alike_447 ?_
      refine r_iload 1 rfl dL_alike_449 ?_
      refine r_iconst (0) (by decide) dL_alike_451 ?_
      refine r_callV (n := 3) (As := [.int _, .int _, .int _]) (cell_0 _ _ _ _) (lvs_0 _) rfl (nc_X9_faultAt X hst ad _ _ _ _) (fun _ h => h) rfl ⟨rfl, by decide, by decide, by decide +kernel⟩ w_533 w_534 w_535 w_203 w_536 rfl rfl (Nat.le_of_ble_eq_true rfl) ⟨by decide, by decide⟩ dL_alike_452 (fun v14 σ15 => ?_)
      refine r_aload_n 7 rfl dL_alike_455 ?_
      refine r_iload 0 rfl dL_alike_456 ?_
      refine r_gd (fun h6 => ?_)
      refine r_iaload (lvs_72 _) (cell_72 _ _ _ _) h6 dL_alike_458 ?_
      refine r_icmp_ne 520 dL_alike_459 (by decide) ?_ ?_
      · refine r_aload_n 5 rfl dL_alike_462 ?_
        refine r_iload 4 rfl dL_alike_463 ?_
        refine r_iload 1 rfl dL_alike_465 ?_
        refine r_iconst (1) (by decide) dL_alike_467 ?_
        refine r_callV (n := 3) (As := [.int _, .int _, .int _]) (cell_0 _ _ _ _) (lvs_0 _) rfl (nc_X9_faultAt X hst ad _ _ _ _) (fun _ h => h) rfl ⟨rfl, by decide, by decide, by decide +kernel⟩ w_533 w_534 w_535 w_203 w_536 rfl rfl (Nat.le_of_ble_eq_true rfl) ⟨by decide, by decide⟩ dL_alike_468 (fun v16 σ17 => ?_)
        refine r_aload_n 7 rfl dL_alike_471 ?_
        refine r_bipush (32) (by decide) dL_alike_472 ?_
        refine r_iload 0 rfl dL_alike_474 ?_
        refine r_iadd dL_alike_476 ?_
        refine r_gd (fun h7 => ?_)
        refine r_iaload (lvs_72 _) (cell_72 _ _ _ _) h7 dL_alike_477 ?_
        refine r_icmp_ne 520 dL_alike_478 (by decide) ?_ ?_
        · refine r_aload_n 5 rfl dL_alike_481 ?_
          refine r_iload 4 rfl dL_alike_482 ?_
          refine r_iload 1 rfl dL_alike_484 ?_
          refine r_iconst (2) (by decide) dL_alike_486 ?_
          refine r_callV (n := 3) (As := [.int _, .int _, .int _]) (cell_0 _ _ _ _) (lvs_0 _) rfl (nc_X9_faultAt X hst ad _ _ _ _) (fun _ h => h) rfl ⟨rfl, by decide, by decide, by decide +kernel⟩ w_533 w_534 w_535 w_203 w_536 rfl rfl (Nat.le_of_ble_eq_true rfl) ⟨by decide, by decide⟩ dL_alike_487 (fun v18 σ19 => ?_)
          refine r_aload_n 8 rfl dL_alike_490 ?_
          refine r_iload 0 rfl dL_alike_491 ?_
          refine r_iaload (lvs_73 _) (cell_73 _ _ _ _) h6 dL_alike_493 ?_
          refine r_icmp_ne 520 dL_alike_494 (by decide) ?_ ?_
          · refine r_aload_n 5 rfl dL_alike_497 ?_
            refine r_iload 4 rfl dL_alike_498 ?_
            refine r_iload 1 rfl dL_alike_500 ?_
            refine r_iconst (3) (by decide) dL_alike_502 ?_
            refine r_callV (n := 3) (As := [.int _, .int _, .int _]) (cell_0 _ _ _ _) (lvs_0 _) rfl (nc_X9_faultAt X hst ad _ _ _ _) (fun _ h => h) rfl ⟨rfl, by decide, by decide, by decide +kernel⟩ w_533 w_534 w_535 w_203 w_536 rfl rfl (Nat.le_of_ble_eq_true rfl) ⟨by decide, by decide⟩ dL_alike_503 (fun v20 σ21 => ?_)
            refine r_aload_n 8 rfl dL_alike_506 ?_
            refine r_bipush (32) (by decide) dL_alike_507 ?_
            refine r_iload 0 rfl dL_alike_509 ?_
            refine r_iadd dL_alike_511 ?_
            refine r_iaload (lvs_73 _) (cell_73 _ _ _ _) h7 dL_alike_512 ?_
            refine r_icmp_ne 520 dL_alike_513 (by decide) ?_ ?_
            · refine r_iconst (1) (by decide) dL_alike_516 ?_
              refine r_goto 521 dL_alike_517 (by decide) ?_
              refine r_istore [(9, .int _), (14, .int _), (13, .int _), (11, .int _), (10, .int _), (0, .ref _), (1, .ref _), (2, .ref _), (3, .ref _), (4, .ref _), (5, .ref _), (6, .ref _), (7, .int _), (8, .ref _)] rfl (by decide) dL_alike_521 ?_
              refine r_iinc (1) [(13, .int _), (9, .int _), (14, .int _), (11, .int _), (10, .int _), (0, .ref _), (1, .ref _), (2, .ref _), (3, .ref _), (4, .ref _), (5, .ref _), (6, .ref _), (7, .int _), (8, .ref _)] 2 rfl (by decide) rfl (by decide) dL_alike_523 ?_
              refine r_goto 419 dL_alike_526 (by decide) ?_
              exact r_sub [0, 1, 3, 4, 5, 6, 7, 8, 9, 10, 11, 12, 13] rfl (ih _ _ _ _ _ _)
            · refine r_iconst (0) (by decide) dL_alike_520 ?_
              refine r_istore [(9, .int _), (14, .int _), (13, .int _), (11, .int _), (10, .int _), (0, .ref _), (1, .ref _), (2, .ref _), (3, .ref _), (4, .ref _), (5, .ref _), (6, .ref _), (7, .int _), (8, .ref _)] rfl (by decide) dL_alike_521 ?_
              refine r_iinc (1) [(13, .int _), (9, .int _), (14, .int _), (11, .int _), (10, .int _), (0, .ref _), (1, .ref _), (2, .ref _), (3, .ref _), (4, .ref _), (5, .ref _), (6, .ref _), (7, .int _), (8, .ref _)] 2 rfl (by decide) rfl (by decide) dL_alike_523 ?_
              refine r_goto 419 dL_alike_526 (by decide) ?_
              exact r_sub [0, 1, 3, 4, 5, 6, 7, 8, 9, 10, 11, 12, 13] rfl (ih _ _ _ _ _ _)
          · refine r_iconst (0) (by decide) dL_alike_520 ?_
            refine r_istore [(9, .int _), (14, .int _), (13, .int _), (11, .int _), (10, .int _), (0, .ref _), (1, .ref _), (2, .ref _), (3, .ref _), (4, .ref _), (5, .ref _), (6, .ref _), (7, .int _), (8, .ref _)] rfl (by decide) dL_alike_521 ?_
            refine r_iinc (1) [(13, .int _), (9, .int _), (14, .int _), (11, .int _), (10, .int _), (0, .ref _), (1, .ref _), (2, .ref _), (3, .ref _), (4, .ref _), (5, .ref _), (6, .ref _), (7, .int _), (8, .ref _)] 2 rfl (by decide) rfl (by decide) dL_alike_523 ?_
            refine r_goto 419 dL_alike_526 (by decide) ?_
            exact r_sub [0, 1, 3, 4, 5, 6, 7, 8, 9, 10, 11, 12, 13] rfl (ih _ _ _ _ _ _)
        · refine r_iconst (0) (by decide) dL_alike_520 ?_
          refine r_istore [(9, .int _), (14, .int _), (13, .int _), (11, .int _), (10, .int _), (0, .ref _), (1, .ref _), (2, .ref _), (3, .ref _), (4, .ref _), (5, .ref _), (6, .ref _), (7, .int _), (8, .ref _)] rfl (by decide) dL_alike_521 ?_
          refine r_iinc (1) [(13, .int _), (9, .int _), (14, .int _), (11, .int _), (10, .int _), (0, .ref _), (1, .ref _), (2, .ref _), (3, .ref _), (4, .ref _), (5, .ref _), (6, .ref _), (7, .int _), (8, .ref _)] 2 rfl (by decide) rfl (by decide) dL_alike_523 ?_
          refine r_goto 419 dL_alike_526 (by decide) ?_
          exact r_sub [0, 1, 3, 4, 5, 6, 7, 8, 9, 10, 11, 12, 13] rfl (ih _ _ _ _ _ _)
      · refine r_iconst (0) (by decide) dL_alike_520 ?_
        refine r_istore [(9, .int _), (14, .int _), (13, .int _), (11, .int _), (10, .int _), (0, .ref _), (1, .ref _), (2, .ref _), (3, .ref _), (4, .ref _), (5, .ref _), (6, .ref _), (7, .int _), (8, .ref _)] rfl (by decide) dL_alike_521 ?_
        refine r_iinc (1) [(13, .int _), (9, .int _), (14, .int _), (11, .int _), (10, .int _), (0, .ref _), (1, .ref _), (2, .ref _), (3, .ref _), (4, .ref _), (5, .ref _), (6, .ref _), (7, .int _), (8, .ref _)] 2 rfl (by decide) rfl (by decide) dL_alike_523 ?_
        refine r_goto 419 dL_alike_526 (by decide) ?_
        exact r_sub [0, 1, 3, 4, 5, 6, 7, 8, 9, 10, 11, 12, 13] rfl (ih _ _ _ _ _ _)
theorem bl_L_alike_372 (X : Xt) (hst : X.1.stackTraces = false) (ad : Ad) {k19 : Wd → Int32 → Int32 → Int32 → Option ((Int32 ⊕ String) × Wd)} (hk19 : ∀ (σ : Wd) (a10 : Int32) (a9 : Int32) (a7 : Int32), Bk X (fun a => a = ad) cL_alike 15 RL (some (.boolean)) 11 199 vI (0, 0) (0, 0) ad σ 19 [(10, .int a10), (9, .int a9), (0, .ref (ad 0 0)), (1, .ref (ad 71 0)), (2, .ref (ad 72 0)), (3, .ref (ad 73 0)), (4, .ref (ad 74 0)), (5, .ref (ad 75 0)), (6, .ref (ad 76 0)), (7, .int a7), (8, .ref (ad 77 0))] [] (k19 σ a10 a9 a7)) : ∀ (n : Nat) (σ : Wd) (a13 : Int32) (a9 : Int32) (a11 : Int32) (a10 : Int32) (a7 : Int32), Bk X (fun a => a = ad) cL_alike 15 RL (some (.boolean)) 11 199 vI (0, 0) (0, 0) ad σ 372 [(13, .int a13), (9, .int a9), (11, .int a11), (10, .int a10), (0, .ref (ad 0 0)), (1, .ref (ad 71 0)), (2, .ref (ad 72 0)), (3, .ref (ad 73 0)), (4, .ref (ad 74 0)), (5, .ref (ad 75 0)), (6, .ref (ad 76 0)), (7, .int a7), (8, .ref (ad 77 0))] [] (l_L_alike_372 k19 n σ a13 a9 a11 a10 a7) := by
  intro n
  induction n with
  | zero => intros; exact r_none
  | succ n ih =>
  intro σ a13 a9 a11 a10 a7
  rw [l_L_alike_372]
  refine r_iload 0 rfl dL_alike_372 ?_
  refine r_iconst (4) (by decide) dL_alike_374 ?_
  refine r_icmp_ge 416 dL_alike_375 (by decide) ?_ ?_
  · refine r_iconst (0) (by decide) dL_alike_416 ?_
    refine r_istore [(13, .int _), (9, .int _), (11, .int _), (10, .int _), (0, .ref _), (1, .ref _), (2, .ref _), (3, .ref _), (4, .ref _), (5, .ref _), (6, .ref _), (7, .int _), (8, .ref _)] rfl (by decide) dL_alike_417 ?_
    exact r_sub [0, 1, 2, 3, 4, 5, 6, 7, 8, 9, 10, 11, 12] rfl ((bl_L_alike_419 X hst ad hk19 FU) _ _ _ _ _ _)
  · refine r_iload 1 rfl dL_alike_378 ?_
    refine r_if_eq 407 dL_alike_380 (by decide) ?_ ?_
    · refine r_iconst (0) (by decide) dL_alike_407 ?_
      refine r_istore [(9, .int _), (13, .int _), (11, .int _), (10, .int _), (0, .ref _), (1, .ref _), (2, .ref _), (3, .ref _), (4, .ref _), (5, .ref _), (6, .ref _), (7, .int _), (8, .ref _)] rfl (by decide) dL_alike_408 ?_
      refine r_iinc (1) [(13, .int _), (9, .int _), (11, .int _), (10, .int _), (0, .ref _), (1, .ref _), (2, .ref _), (3, .ref _), (4, .ref _), (5, .ref _), (6, .ref _), (7, .int _), (8, .ref _)] 1 rfl (by decide) rfl (by decide) dL_alike_410 ?_
      refine r_goto 372 dL_alike_413 (by decide) ?_
      exact r_sub [0, 1, 2, 3, 4, 5, 6, 7, 8, 9, 10, 11, 12] rfl (ih _ _ _ _ _ _)
    · refine r_aload_n 4 rfl dL_alike_383 ?_
      refine r_iload 3 rfl dL_alike_384 ?_
      refine r_iload 0 rfl dL_alike_386 ?_
      refine r_callV (n := 2) (As := [.int _, .int _]) (cell_0 _ _ _ _) (lvs_0 _) rfl (nc_X9_axle X hst ad _ _ _) (fun _ h => h) rfl ⟨rfl, by decide, by decide, by decide +kernel⟩ w_537 w_538 w_539 w_203 w_540 rfl rfl (Nat.le_of_ble_eq_true rfl) ⟨by decide, by decide⟩ dL_alike_388 (fun v22 σ23 => ?_)
      refine r_aload_n 5 rfl dL_alike_391 ?_
      refine r_iload 2 rfl dL_alike_392 ?_
      refine r_iconst (2) (by decide) dL_alike_394 ?_
      refine r_iadd dL_alike_395 ?_
      refine r_iload 0 rfl dL_alike_396 ?_
      refine r_iadd dL_alike_398 ?_
      refine r_gd (fun h8 => ?_)
      refine r_iaload (lvs_71 _) (cell_71 _ _ _ _) h8 dL_alike_399 ?_
      refine r_icmp_ne 407 dL_alike_400 (by decide) ?_ ?_
      · refine r_iconst (1) (by decide) dL_alike_403 ?_
        refine r_goto 408 dL_alike_404 (by decide) ?_
        refine r_istore [(9, .int _), (13, .int _), (11, .int _), (10, .int _), (0, .ref _), (1, .ref _), (2, .ref _), (3, .ref _), (4, .ref _), (5, .ref _), (6, .ref _), (7, .int _), (8, .ref _)] rfl (by decide) dL_alike_408 ?_
        refine r_iinc (1) [(13, .int _), (9, .int _), (11, .int _), (10, .int _), (0, .ref _), (1, .ref _), (2, .ref _), (3, .ref _), (4, .ref _), (5, .ref _), (6, .ref _), (7, .int _), (8, .ref _)] 1 rfl (by decide) rfl (by decide) dL_alike_410 ?_
        refine r_goto 372 dL_alike_413 (by decide) ?_
        exact r_sub [0, 1, 2, 3, 4, 5, 6, 7, 8, 9, 10, 11, 12] rfl (ih _ _ _ _ _ _)
      · refine r_iconst (0) (by decide) dL_alike_407 ?_
        refine r_istore [(9, .int _), (13, .int _), (11, .int _), (10, .int _), (0, .ref _), (1, .ref _), (2, .ref _), (3, .ref _), (4, .ref _), (5, .ref _), (6, .ref _), (7, .int _), (8, .ref _)] rfl (by decide) dL_alike_408 ?_
        refine r_iinc (1) [(13, .int _), (9, .int _), (11, .int _), (10, .int _), (0, .ref _), (1, .ref _), (2, .ref _), (3, .ref _), (4, .ref _), (5, .ref _), (6, .ref _), (7, .int _), (8, .ref _)] 1 rfl (by decide) rfl (by decide) dL_alike_410 ?_
        refine r_goto 372 dL_alike_413 (by decide) ?_
        exact r_sub [0, 1, 2, 3, 4, 5, 6, 7, 8, 9, 10, 11, 12] rfl (ih _ _ _ _ _ _)
theorem bj_L_alike_367 (X : Xt) (hst : X.1.stackTraces = false) (ad : Ad) {k19 : Wd → Int32 → Int32 → Int32 → Option ((Int32 ⊕ String) × Wd)} (hk19 : ∀ (σ : Wd) (a10 : Int32) (a9 : Int32) (a7 : Int32), Bk X (fun a => a = ad) cL_alike 15 RL (some (.boolean)) 11 199 vI (0, 0) (0, 0) ad σ 19 [(10, .int a10), (9, .int a9), (0, .ref (ad 0 0)), (1, .ref (ad 71 0)), (2, .ref (ad 72 0)), (3, .ref (ad 73 0)), (4, .ref (ad 74 0)), (5, .ref (ad 75 0)), (6, .ref (ad 76 0)), (7, .int a7), (8, .ref (ad 77 0))] [] (k19 σ a10 a9 a7)) (σ : Wd) (a11 : Int32) (a10 : Int32) (a7 : Int32) (s0 : Int32) : Bk X (fun a => a = ad) cL_alike 15 RL (some (.boolean)) 11 199 vI (0, 0) (0, 0) ad σ 367 [(11, .int a11), (10, .int a10), (0, .ref (ad 0 0)), (1, .ref (ad 71 0)), (2, .ref (ad 72 0)), (3, .ref (ad 73 0)), (4, .ref (ad 74 0)), (5, .ref (ad 75 0)), (6, .ref (ad 76 0)), (7, .int a7), (8, .ref (ad 77 0))] [.int s0] (j_L_alike_367 k19 σ a11 a10 a7 s0) := by
  unfold j_L_alike_367
  refine r_istore [(9, .int _), (11, .int _), (10, .int _), (0, .ref _), (1, .ref _), (2, .ref _), (3, .ref _), (4, .ref _), (5, .ref _), (6, .ref _), (7, .int _), (8, .ref _)] rfl (by decide) dL_alike_367 ?_
  refine r_iconst (0) (by decide) dL_alike_369 ?_
  refine r_istore [(13, .int _), (9, .int _), (11, .int _), (10, .int _), (0, .ref _), (1, .ref _), (2, .ref _), (3, .ref _), (4, .ref _), (5, .ref _), (6, .ref _), (7, .int _), (8, .ref _)] rfl (by decide) dL_alike_370 ?_
  exact r_sub [0, 1, 2, 3, 4, 5, 6, 7, 8, 9, 10, 11, 12] rfl ((bl_L_alike_372 X hst ad hk19 FU) _ _ _ _ _ _)
theorem bj_L_alike_366 (X : Xt) (hst : X.1.stackTraces = false) (ad : Ad) {k19 : Wd → Int32 → Int32 → Int32 → Option ((Int32 ⊕ String) × Wd)} (hk19 : ∀ (σ : Wd) (a10 : Int32) (a9 : Int32) (a7 : Int32), Bk X (fun a => a = ad) cL_alike 15 RL (some (.boolean)) 11 199 vI (0, 0) (0, 0) ad σ 19 [(10, .int a10), (9, .int a9), (0, .ref (ad 0 0)), (1, .ref (ad 71 0)), (2, .ref (ad 72 0)), (3, .ref (ad 73 0)), (4, .ref (ad 74 0)), (5, .ref (ad 75 0)), (6, .ref (ad 76 0)), (7, .int a7), (8, .ref (ad 77 0))] [] (k19 σ a10 a9 a7)) (σ : Wd) (a11 : Int32) (a10 : Int32) (a7 : Int32) : Bk X (fun a => a = ad) cL_alike 15 RL (some (.boolean)) 11 199 vI (0, 0) (0, 0) ad σ 366 [(11, .int a11), (10, .int a10), (0, .ref (ad 0 0)), (1, .ref (ad 71 0)), (2, .ref (ad 72 0)), (3, .ref (ad 73 0)), (4, .ref (ad 74 0)), (5, .ref (ad 75 0)), (6, .ref (ad 76 0)), (7, .int a7), (8, .ref (ad 77 0))] [] (j_L_alike_366 k19 σ a11 a10 a7) := by
  unfold j_L_alike_366
  refine r_iconst (0) (by decide) dL_alike_366 ?_
  exact r_sub [0, 1, 2, 3, 4, 5, 6, 7, 8, 9, 10] rfl ((bj_L_alike_367 X hst ad hk19) _ _ _ _ _)
theorem bj_L_alike_297 (X : Xt) (hst : X.1.stackTraces = false) (ad : Ad) {k169 : Wd → Int32 → Int32 → Int32 → Int32 → Int32 → Int32 → Option ((Int32 ⊕ String) × Wd)} (hk169 : ∀ (σ : Wd) (a13 : Int32) (a12 : Int32) (a9 : Int32) (a11 : Int32) (a10 : Int32) (a7 : Int32), Bk X (fun a => a = ad) cL_alike 15 RL (some (.boolean)) 11 199 vI (0, 0) (0, 0) ad σ 169 [(13, .int a13), (12, .int a12), (9, .int a9), (11, .int a11), (10, .int a10), (0, .ref (ad 0 0)), (1, .ref (ad 71 0)), (2, .ref (ad 72 0)), (3, .ref (ad 73 0)), (4, .ref (ad 74 0)), (5, .ref (ad 75 0)), (6, .ref (ad 76 0)), (7, .int a7), (8, .ref (ad 77 0))] [] (k169 σ a13 a12 a9 a11 a10 a7)) (σ : Wd) (a9 : Int32) (a13 : Int32) (a11 : Int32) (a10 : Int32) (a7 : Int32) (s0 : Int32) (s1 : Int32) : Bk X (fun a => a = ad) cL_alike 15 RL (some (.boolean)) 11 199 vI (0, 0) (0, 0) ad σ 297 [(9, .int a9), (13, .int a13), (11, .int a11), (10, .int a10), (0, .ref (ad 0 0)), (1, .ref (ad 71 0)), (2, .ref (ad 72 0)), (3, .ref (ad 73 0)), (4, .ref (ad 74 0)), (5, .ref (ad 75 0)), (6, .ref (ad 76 0)), (7, .int a7), (8, .ref (ad 77 0))] [.int s0, .int s1] (j_L_alike_297 k169 σ a9 a13 a11 a10 a7 s0 s1) := by
  unfold j_L_alike_297
  refine r_iadd dL_alike_297 ?_
  refine r_istore [(12, .int _), (9, .int _), (13, .int _), (11, .int _), (10, .int _), (0, .ref _), (1, .ref _), (2, .ref _), (3, .ref _), (4, .ref _), (5, .ref _), (6, .ref _), (7, .int _), (8, .ref _)] rfl (by decide) dL_alike_298 ?_
  refine r_iload 1 rfl dL_alike_300 ?_
  refine r_if_eq 336 dL_alike_302 (by decide) ?_ ?_
  · refine r_iconst (0) (by decide) dL_alike_336 ?_
    refine r_istore [(9, .int _), (12, .int _), (13, .int _), (11, .int _), (10, .int _), (0, .ref _), (1, .ref _), (2, .ref _), (3, .ref _), (4, .ref _), (5, .ref _), (6, .ref _), (7, .int _), (8, .ref _)] rfl (by decide) dL_alike_337 ?_
    refine r_iinc (1) [(13, .int _), (9, .int _), (12, .int _), (11, .int _), (10, .int _), (0, .ref _), (1, .ref _), (2, .ref _), (3, .ref _), (4, .ref _), (5, .ref _), (6, .ref _), (7, .int _), (8, .ref _)] 2 rfl (by decide) rfl (by decide) dL_alike_339 ?_
    refine r_goto 169 dL_alike_342 (by decide) ?_
    exact r_sub [0, 2, 1, 3, 4, 5, 6, 7, 8, 9, 10, 11, 12, 13] rfl (hk169 _ _ _ _ _ _ _)
  · refine r_aload_n 5 rfl dL_alike_305 ?_
    refine r_iload 4 rfl dL_alike_306 ?_
    refine r_iload 2 rfl dL_alike_308 ?_
    refine r_callV (n := 2) (As := [.int _, .int _]) (cell_0 _ _ _ _) (lvs_0 _) rfl (nc_X9_whyNot X hst ad _ _ _) (fun _ h => h) rfl ⟨rfl, by decide, by decide, by decide +kernel⟩ w_545 w_546 w_547 w_203 w_548 rfl rfl (Nat.le_of_ble_eq_true rfl) ⟨by decide, by decide⟩ dL_alike_310 (fun v26 σ27 => ?_)
    refine r_aload_n 6 rfl dL_alike_313 ?_
    refine r_aload_n 7 rfl dL_alike_314 ?_
    refine r_aload_n 8 rfl dL_alike_315 ?_
    refine r_aload 10 rfl dL_alike_316 ?_
    refine r_aload 11 rfl dL_alike_318 ?_
    refine r_iload 4 rfl dL_alike_320 ?_
    refine r_iload 2 rfl dL_alike_322 ?_
    refine r_iload 12 rfl dL_alike_324 ?_
    refine r_callS (n := 8) (As := [.ref _, .ref _, .ref _, .ref _, .ref _, .int _, .int _, .int _]) (nc_L_why X hst ad _ _ _ _) (fun _ h => h) rfl ⟨by decide, by decide, by decide +kernel⟩ w_504 w_505 w_502 w_506 rfl rfl (Nat.le_of_ble_eq_true rfl) ⟨by decide, by decide⟩ dL_alike_326 (fun v28 σ29 => ?_)
    refine r_icmp_ne 336 dL_alike_329 (by decide) ?_ ?_
    · refine r_iconst (1) (by decide) dL_alike_332 ?_
      refine r_goto 337 dL_alike_333 (by decide) ?_
      refine r_istore [(9, .int _), (12, .int _), (13, .int _), (11, .int _), (10, .int _), (0, .ref _), (1, .ref _), (2, .ref _), (3, .ref _), (4, .ref _), (5, .ref _), (6, .ref _), (7, .int _), (8, .ref _)] rfl (by decide) dL_alike_337 ?_
      refine r_iinc (1) [(13, .int _), (9, .int _), (12, .int _), (11, .int _), (10, .int _), (0, .ref _), (1, .ref _), (2, .ref _), (3, .ref _), (4, .ref _), (5, .ref _), (6, .ref _), (7, .int _), (8, .ref _)] 2 rfl (by decide) rfl (by decide) dL_alike_339 ?_
      refine r_goto 169 dL_alike_342 (by decide) ?_
      exact r_sub [0, 2, 1, 3, 4, 5, 6, 7, 8, 9, 10, 11, 12, 13] rfl (hk169 _ _ _ _ _ _ _)
    · refine r_iconst (0) (by decide) dL_alike_336 ?_
      refine r_istore [(9, .int _), (12, .int _), (13, .int _), (11, .int _), (10, .int _), (0, .ref _), (1, .ref _), (2, .ref _), (3, .ref _), (4, .ref _), (5, .ref _), (6, .ref _), (7, .int _), (8, .ref _)] rfl (by decide) dL_alike_337 ?_
      refine r_iinc (1) [(13, .int _), (9, .int _), (12, .int _), (11, .int _), (10, .int _), (0, .ref _), (1, .ref _), (2, .ref _), (3, .ref _), (4, .ref _), (5, .ref _), (6, .ref _), (7, .int _), (8, .ref _)] 2 rfl (by decide) rfl (by decide) dL_alike_339 ?_
      refine r_goto 169 dL_alike_342 (by decide) ?_
      exact r_sub [0, 2, 1, 3, 4, 5, 6, 7, 8, 9, 10, 11, 12, 13] rfl (hk169 _ _ _ _ _ _ _)
theorem bj_L_alike_289 (X : Xt) (hst : X.1.stackTraces = false) (ad : Ad) {k169 : Wd → Int32 → Int32 → Int32 → Int32 → Int32 → Int32 → Option ((Int32 ⊕ String) × Wd)} (hk169 : ∀ (σ : Wd) (a13 : Int32) (a12 : Int32) (a9 : Int32) (a11 : Int32) (a10 : Int32) (a7 : Int32), Bk X (fun a => a = ad) cL_alike 15 RL (some (.boolean)) 11 199 vI (0, 0) (0, 0) ad σ 169 [(13, .int a13), (12, .int a12), (9, .int a9), (11, .int a11), (10, .int a10), (0, .ref (ad 0 0)), (1, .ref (ad 71 0)), (2, .ref (ad 72 0)), (3, .ref (ad 73 0)), (4, .ref (ad 74 0)), (5, .ref (ad 75 0)), (6, .ref (ad 76 0)), (7, .int a7), (8, .ref (ad 77 0))] [] (k169 σ a13 a12 a9 a11 a10 a7)) (σ : Wd) (a9 : Int32) (a13 : Int32) (a11 : Int32) (a10 : Int32) (a7 : Int32) (s0 : Int32) : Bk X (fun a => a = ad) cL_alike 15 RL (some (.boolean)) 11 199 vI (0, 0) (0, 0) ad σ 289 [(9, .int a9), (13, .int a13), (11, .int a11), (10, .int a10), (0, .ref (ad 0 0)), (1, .ref (ad 71 0)), (2, .ref (ad 72 0)), (3, .ref (ad 73 0)), (4, .ref (ad 74 0)), (5, .ref (ad 75 0)), (6, .ref (ad 76 0)), (7, .int a7), (8, .ref (ad 77 0))] [.int s0] (j_L_alike_289 k169 σ a9 a13 a11 a10 a7 s0) := by
  unfold j_L_alike_289
  refine r_iconst (1) (by decide) dL_alike_289 ?_
  refine r_iload 1 rfl dL_alike_290 ?_
  refine r_ishl dL_alike_292 ?_
  refine r_goto 297 dL_alike_293 (by decide) ?_
  exact r_sub [0, 1, 2, 3, 4, 5, 6, 7, 8, 9, 10, 11, 12] rfl ((bj_L_alike_297 X hst ad hk169) _ _ _ _ _ _ _ _)
theorem bj_L_alike_229 (X : Xt) (hst : X.1.stackTraces = false) (ad : Ad) {k169 : Wd → Int32 → Int32 → Int32 → Int32 → Int32 → Int32 → Option ((Int32 ⊕ String) × Wd)} (hk169 : ∀ (σ : Wd) (a13 : Int32) (a12 : Int32) (a9 : Int32) (a11 : Int32) (a10 : Int32) (a7 : Int32), Bk X (fun a => a = ad) cL_alike 15 RL (some (.boolean)) 11 199 vI (0, 0) (0, 0) ad σ 169 [(13, .int a13), (12, .int a12), (9, .int a9), (11, .int a11), (10, .int a10), (0, .ref (ad 0 0)), (1, .ref (ad 71 0)), (2, .ref (ad 72 0)), (3, .ref (ad 73 0)), (4, .ref (ad 74 0)), (5, .ref (ad 75 0)), (6, .ref (ad 76 0)), (7, .int a7), (8, .ref (ad 77 0))] [] (k169 σ a13 a12 a9 a11 a10 a7)) (σ : Wd) (a13 : Int32) (a12 : Int32) (a11 : Int32) (a10 : Int32) (a7 : Int32) (s0 : Int32) : Bk X (fun a => a = ad) cL_alike 15 RL (some (.boolean)) 11 199 vI (0, 0) (0, 0) ad σ 229 [(13, .int a13), (12, .int a12), (11, .int a11), (10, .int a10), (0, .ref (ad 0 0)), (1, .ref (ad 71 0)), (2, .ref (ad 72 0)), (3, .ref (ad 73 0)), (4, .ref (ad 74 0)), (5, .ref (ad 75 0)), (6, .ref (ad 76 0)), (7, .int a7), (8, .ref (ad 77 0))] [.int s0] (j_L_alike_229 k169 σ a13 a12 a11 a10 a7 s0) := by
  unfold j_L_alike_229
  refine r_istore [(9, .int _), (13, .int _), (12, .int _), (11, .int _), (10, .int _), (0, .ref _), (1, .ref _), (2, .ref _), (3, .ref _), (4, .ref _), (5, .ref _), (6, .ref _), (7, .int _), (8, .ref _)] rfl (by decide) dL_alike_229 ?_
  refine r_iload 2 rfl dL_alike_231 ?_
  refine r_aload_n 6 rfl dL_alike_233 ?_
  refine r_iload 3 rfl dL_alike_234 ?_
  refine r_bipush (6) (by decide) dL_alike_236 ?_
  refine r_iadd dL_alike_238 ?_
  refine r_iload 1 rfl dL_alike_239 ?_
  refine r_iadd dL_alike_241 ?_
  refine r_gd (fun h9 => ?_)
  refine r_iaload (lvs_71 _) (cell_71 _ _ _ _) h9 dL_alike_242 ?_
  refine r_aload 11 rfl dL_alike_243 ?_
  refine r_iload 1 rfl dL_alike_245 ?_
  refine r_gd (fun h10 => ?_)
  refine r_iaload (lvs_76 _) (cell_76 _ _ _ _) h10 dL_alike_247 ?_
  refine r_aload 11 rfl dL_alike_248 ?_
  refine r_iload 1 rfl dL_alike_250 ?_
  refine r_iaload (lvs_76 _) (cell_76 _ _ _ _) h10 dL_alike_252 ?_
  refine r_aload 11 rfl dL_alike_253 ?_
  refine r_iconst (3) (by decide) dL_alike_255 ?_
  refine r_iload 1 rfl dL_alike_256 ?_
  refine r_iadd dL_alike_258 ?_
  refine r_gd (fun h11 => ?_)
  refine r_iaload (lvs_76 _) (cell_76 _ _ _ _) h11 dL_alike_259 ?_
  refine r_imul dL_alike_260 ?_
  refine r_bipush (100) (by decide) dL_alike_261 ?_
  refine r_idiv (by decide) dL_alike_263 ?_
  refine r_iadd dL_alike_264 ?_
  refine r_icmp_gt 289 dL_alike_265 (by decide) ?_ ?_
  · exact r_sub [0, 1, 3, 4, 5, 6, 7, 8, 9, 10, 11, 12, 13] rfl ((bj_L_alike_289 X hst ad hk169) _ _ _ _ _ _ _)
  · refine r_aload_n 6 rfl dL_alike_268 ?_
    refine r_iload 3 rfl dL_alike_269 ?_
    refine r_bipush (9) (by decide) dL_alike_271 ?_
    refine r_iadd dL_alike_273 ?_
    refine r_iload 1 rfl dL_alike_274 ?_
    refine r_iadd dL_alike_276 ?_
    refine r_gd (fun h12 => ?_)
    refine r_iaload (lvs_71 _) (cell_71 _ _ _ _) h12 dL_alike_277 ?_
    refine r_aload 11 rfl dL_alike_278 ?_
    refine r_bipush (6) (by decide) dL_alike_280 ?_
    refine r_iload 1 rfl dL_alike_282 ?_
    refine r_iadd dL_alike_284 ?_
    refine r_gd (fun h13 => ?_)
    refine r_iaload (lvs_76 _) (cell_76 _ _ _ _) h13 dL_alike_285 ?_
    refine r_icmp_le 296 dL_alike_286 (by decide) ?_ ?_
    · refine r_iconst (0) (by decide) dL_alike_296 ?_
      exact r_sub [0, 1, 3, 4, 5, 6, 7, 8, 9, 10, 11, 12, 13] rfl ((bj_L_alike_297 X hst ad hk169) _ _ _ _ _ _ _ _)
    · exact r_sub [0, 1, 3, 4, 5, 6, 7, 8, 9, 10, 11, 12, 13] rfl ((bj_L_alike_289 X hst ad hk169) _ _ _ _ _ _ _)
theorem bj_L_alike_228 (X : Xt) (hst : X.1.stackTraces = false) (ad : Ad) {k169 : Wd → Int32 → Int32 → Int32 → Int32 → Int32 → Int32 → Option ((Int32 ⊕ String) × Wd)} (hk169 : ∀ (σ : Wd) (a13 : Int32) (a12 : Int32) (a9 : Int32) (a11 : Int32) (a10 : Int32) (a7 : Int32), Bk X (fun a => a = ad) cL_alike 15 RL (some (.boolean)) 11 199 vI (0, 0) (0, 0) ad σ 169 [(13, .int a13), (12, .int a12), (9, .int a9), (11, .int a11), (10, .int a10), (0, .ref (ad 0 0)), (1, .ref (ad 71 0)), (2, .ref (ad 72 0)), (3, .ref (ad 73 0)), (4, .ref (ad 74 0)), (5, .ref (ad 75 0)), (6, .ref (ad 76 0)), (7, .int a7), (8, .ref (ad 77 0))] [] (k169 σ a13 a12 a9 a11 a10 a7)) (σ : Wd) (a13 : Int32) (a12 : Int32) (a11 : Int32) (a10 : Int32) (a7 : Int32) : Bk X (fun a => a = ad) cL_alike 15 RL (some (.boolean)) 11 199 vI (0, 0) (0, 0) ad σ 228 [(13, .int a13), (12, .int a12), (11, .int a11), (10, .int a10), (0, .ref (ad 0 0)), (1, .ref (ad 71 0)), (2, .ref (ad 72 0)), (3, .ref (ad 73 0)), (4, .ref (ad 74 0)), (5, .ref (ad 75 0)), (6, .ref (ad 76 0)), (7, .int a7), (8, .ref (ad 77 0))] [] (j_L_alike_228 k169 σ a13 a12 a11 a10 a7) := by
  unfold j_L_alike_228
  refine r_iconst (0) (by decide) dL_alike_228 ?_
  exact r_sub [0, 1, 2, 3, 4, 5, 6, 7, 8, 9, 10, 11, 12] rfl ((bj_L_alike_229 X hst ad hk169) _ _ _ _ _ _ _)
theorem bl_L_alike_169 (X : Xt) (hst : X.1.stackTraces = false) (ad : Ad) {k19 : Wd → Int32 → Int32 → Int32 → Option ((Int32 ⊕ String) × Wd)} (hk19 : ∀ (σ : Wd) (a10 : Int32) (a9 : Int32) (a7 : Int32), Bk X (fun a => a = ad) cL_alike 15 RL (some (.boolean)) 11 199 vI (0, 0) (0, 0) ad σ 19 [(10, .int a10), (9, .int a9), (0, .ref (ad 0 0)), (1, .ref (ad 71 0)), (2, .ref (ad 72 0)), (3, .ref (ad 73 0)), (4, .ref (ad 74 0)), (5, .ref (ad 75 0)), (6, .ref (ad 76 0)), (7, .int a7), (8, .ref (ad 77 0))] [] (k19 σ a10 a9 a7)) : ∀ (n : Nat) (σ : Wd) (a13 : Int32) (a12 : Int32) (a9 : Int32) (a11 : Int32) (a10 : Int32) (a7 : Int32), Bk X (fun a => a = ad) cL_alike 15 RL (some (.boolean)) 11 199 vI (0, 0) (0, 0) ad σ 169 [(13, .int a13), (12, .int a12), (9, .int a9), (11, .int a11), (10, .int a10), (0, .ref (ad 0 0)), (1, .ref (ad 71 0)), (2, .ref (ad 72 0)), (3, .ref (ad 73 0)), (4, .ref (ad 74 0)), (5, .ref (ad 75 0)), (6, .ref (ad 76 0)), (7, .int a7), (8, .ref (ad 77 0))] [] (l_L_alike_169 k19 n σ a13 a12 a9 a11 a10 a7) := by
  intro n
  induction n with
  | zero => intros; exact r_none
  | succ n ih =>
  intro σ a13 a12 a9 a11 a10 a7
  rw [l_L_alike_169]
  refine r_iload 0 rfl dL_alike_169 ?_
  refine r_iconst (3) (by decide) dL_alike_171 ?_
  refine r_icmp_ge 345 dL_alike_172 (by decide) ?_ ?_
  · refine r_iload 2 rfl dL_alike_345 ?_
    refine r_if_eq 366 dL_alike_347 (by decide) ?_ ?_
    · exact r_sub [3, 4, 5, 6, 7, 8, 9, 10, 11, 12, 13] rfl ((bj_L_alike_366 X hst ad hk19) _ _ _ _)
    · refine r_aload_n 5 rfl dL_alike_350 ?_
      refine r_iload 4 rfl dL_alike_351 ?_
      refine r_iconst (5) (by decide) dL_alike_353 ?_
      refine r_callV (n := 2) (As := [.int _, .int _]) (cell_0 _ _ _ _) (lvs_0 _) rfl (nc_X9_about X hst ad _ _ _) (fun _ h => h) rfl ⟨rfl, by decide, by decide, by decide +kernel⟩ w_541 w_542 w_543 w_203 w_544 rfl rfl (Nat.le_of_ble_eq_true rfl) ⟨by decide, by decide⟩ dL_alike_354 (fun v24 σ25 => ?_)
      refine r_iload 1 rfl dL_alike_357 ?_
      refine r_icmp_ne 366 dL_alike_359 (by decide) ?_ ?_
      · refine r_iconst (1) (by decide) dL_alike_362 ?_
        refine r_goto 367 dL_alike_363 (by decide) ?_
        exact r_sub [3, 4, 5, 6, 7, 8, 9, 10, 11, 12, 13] rfl ((bj_L_alike_367 X hst ad hk19) _ _ _ _ _)
      · exact r_sub [3, 4, 5, 6, 7, 8, 9, 10, 11, 12, 13] rfl ((bj_L_alike_366 X hst ad hk19) _ _ _ _)
  · refine r_iload 2 rfl dL_alike_175 ?_
    refine r_if_eq 228 dL_alike_177 (by decide) ?_ ?_
    · exact r_sub [0, 1, 3, 4, 5, 6, 7, 8, 9, 10, 11, 12, 13] rfl ((bj_L_alike_228 X hst ad ih) _ _ _ _ _ _)
    · refine r_aload_n 5 rfl dL_alike_180 ?_
      refine r_iload 4 rfl dL_alike_181 ?_
      refine r_iload 0 rfl dL_alike_183 ?_
      refine r_iconst (0) (by decide) dL_alike_185 ?_
      refine r_callV (n := 3) (As := [.int _, .int _, .int _]) (cell_0 _ _ _ _) (lvs_0 _) rfl (nc_X9_clock X hst ad _ _ _ _) (fun _ h => h) rfl ⟨rfl, by decide, by decide, by decide +kernel⟩ w_549 w_550 w_551 w_203 w_552 rfl rfl (Nat.le_of_ble_eq_true rfl) ⟨by decide, by decide⟩ dL_alike_186 (fun v30 σ31 => ?_)
      refine r_aload_n 6 rfl dL_alike_189 ?_
      refine r_iload 3 rfl dL_alike_190 ?_
      refine r_bipush (6) (by decide) dL_alike_192 ?_
      refine r_iadd dL_alike_194 ?_
      refine r_iload 0 rfl dL_alike_195 ?_
      refine r_iadd dL_alike_197 ?_
      refine r_gd (fun h14 => ?_)
      refine r_iaload (lvs_71 _) (cell_71 _ _ _ _) h14 dL_alike_198 ?_
      refine r_icmp_ne 228 dL_alike_199 (by decide) ?_ ?_
      · refine r_aload_n 5 rfl dL_alike_202 ?_
        refine r_iload 4 rfl dL_alike_203 ?_
        refine r_iload 0 rfl dL_alike_205 ?_
        refine r_iconst (1) (by decide) dL_alike_207 ?_
        refine r_callV (n := 3) (As := [.int _, .int _, .int _]) (cell_0 _ _ _ _) (lvs_0 _) rfl (nc_X9_clock X hst ad _ _ _ _) (fun _ h => h) rfl ⟨rfl, by decide, by decide, by decide +kernel⟩ w_549 w_550 w_551 w_203 w_552 rfl rfl (Nat.le_of_ble_eq_true rfl) ⟨by decide, by decide⟩ dL_alike_208 (fun v32 σ33 => ?_)
        refine r_aload_n 6 rfl dL_alike_211 ?_
        refine r_iload 3 rfl dL_alike_212 ?_
        refine r_bipush (9) (by decide) dL_alike_214 ?_
        refine r_iadd dL_alike_216 ?_
        refine r_iload 0 rfl dL_alike_217 ?_
        refine r_iadd dL_alike_219 ?_
        refine r_gd (fun h15 => ?_)
        refine r_iaload (lvs_71 _) (cell_71 _ _ _ _) h15 dL_alike_220 ?_
        refine r_icmp_ne 228 dL_alike_221 (by decide) ?_ ?_
        · refine r_iconst (1) (by decide) dL_alike_224 ?_
          refine r_goto 229 dL_alike_225 (by decide) ?_
          exact r_sub [0, 1, 3, 4, 5, 6, 7, 8, 9, 10, 11, 12, 13] rfl ((bj_L_alike_229 X hst ad ih) _ _ _ _ _ _ _)
        · exact r_sub [0, 1, 3, 4, 5, 6, 7, 8, 9, 10, 11, 12, 13] rfl ((bj_L_alike_228 X hst ad ih) _ _ _ _ _ _)
      · exact r_sub [0, 1, 3, 4, 5, 6, 7, 8, 9, 10, 11, 12, 13] rfl ((bj_L_alike_228 X hst ad ih) _ _ _ _ _ _)
theorem bj_L_alike_161 (X : Xt) (hst : X.1.stackTraces = false) (ad : Ad) {k19 : Wd → Int32 → Int32 → Int32 → Option ((Int32 ⊕ String) × Wd)} (hk19 : ∀ (σ : Wd) (a10 : Int32) (a9 : Int32) (a7 : Int32), Bk X (fun a => a = ad) cL_alike 15 RL (some (.boolean)) 11 199 vI (0, 0) (0, 0) ad σ 19 [(10, .int a10), (9, .int a9), (0, .ref (ad 0 0)), (1, .ref (ad 71 0)), (2, .ref (ad 72 0)), (3, .ref (ad 73 0)), (4, .ref (ad 74 0)), (5, .ref (ad 75 0)), (6, .ref (ad 76 0)), (7, .int a7), (8, .ref (ad 77 0))] [] (k19 σ a10 a9 a7)) (σ : Wd) (a11 : Int32) (a10 : Int32) (a7 : Int32) (s0 : Int32) : Bk X (fun a => a = ad) cL_alike 15 RL (some (.boolean)) 11 199 vI (0, 0) (0, 0) ad σ 161 [(11, .int a11), (10, .int a10), (0, .ref (ad 0 0)), (1, .ref (ad 71 0)), (2, .ref (ad 72 0)), (3, .ref (ad 73 0)), (4, .ref (ad 74 0)), (5, .ref (ad 75 0)), (6, .ref (ad 76 0)), (7, .int a7), (8, .ref (ad 77 0))] [.int s0] (j_L_alike_161 k19 σ a11 a10 a7 s0) := by
  unfold j_L_alike_161
  refine r_istore [(9, .int _), (11, .int _), (10, .int _), (0, .ref _), (1, .ref _), (2, .ref _), (3, .ref _), (4, .ref _), (5, .ref _), (6, .ref _), (7, .int _), (8, .ref _)] rfl (by decide) dL_alike_161 ?_
  refine r_iconst (0) (by decide) dL_alike_163 ?_
  refine r_istore [(12, .int _), (9, .int _), (11, .int _), (10, .int _), (0, .ref _), (1, .ref _), (2, .ref _), (3, .ref _), (4, .ref _), (5, .ref _), (6, .ref _), (7, .int _), (8, .ref _)] rfl (by decide) dL_alike_164 ?_
  refine r_iconst (0) (by decide) dL_alike_166 ?_
  refine r_istore [(13, .int _), (12, .int _), (9, .int _), (11, .int _), (10, .int _), (0, .ref _), (1, .ref _), (2, .ref _), (3, .ref _), (4, .ref _), (5, .ref _), (6, .ref _), (7, .int _), (8, .ref _)] rfl (by decide) dL_alike_167 ?_
  exact r_sub [0, 1, 2, 3, 4, 5, 6, 7, 8, 9, 10, 11, 12, 13] rfl ((bl_L_alike_169 X hst ad hk19 FU) _ _ _ _ _ _ _)
theorem bj_L_alike_160 (X : Xt) (hst : X.1.stackTraces = false) (ad : Ad) {k19 : Wd → Int32 → Int32 → Int32 → Option ((Int32 ⊕ String) × Wd)} (hk19 : ∀ (σ : Wd) (a10 : Int32) (a9 : Int32) (a7 : Int32), Bk X (fun a => a = ad) cL_alike 15 RL (some (.boolean)) 11 199 vI (0, 0) (0, 0) ad σ 19 [(10, .int a10), (9, .int a9), (0, .ref (ad 0 0)), (1, .ref (ad 71 0)), (2, .ref (ad 72 0)), (3, .ref (ad 73 0)), (4, .ref (ad 74 0)), (5, .ref (ad 75 0)), (6, .ref (ad 76 0)), (7, .int a7), (8, .ref (ad 77 0))] [] (k19 σ a10 a9 a7)) (σ : Wd) (a11 : Int32) (a10 : Int32) (a7 : Int32) : Bk X (fun a => a = ad) cL_alike 15 RL (some (.boolean)) 11 199 vI (0, 0) (0, 0) ad σ 160 [(11, .int a11), (10, .int a10), (0, .ref (ad 0 0)), (1, .ref (ad 71 0)), (2, .ref (ad 72 0)), (3, .ref (ad 73 0)), (4, .ref (ad 74 0)), (5, .ref (ad 75 0)), (6, .ref (ad 76 0)), (7, .int a7), (8, .ref (ad 77 0))] [] (j_L_alike_160 k19 σ a11 a10 a7) := by
  unfold j_L_alike_160
  refine r_iconst (0) (by decide) dL_alike_160 ?_
  exact r_sub [0, 1, 2, 3, 4, 5, 6, 7, 8, 9, 10] rfl ((bj_L_alike_161 X hst ad hk19) _ _ _ _ _)
theorem bj_L_alike_153 (X : Xt) (hst : X.1.stackTraces = false) (ad : Ad) {k19 : Wd → Int32 → Int32 → Int32 → Option ((Int32 ⊕ String) × Wd)} (hk19 : ∀ (σ : Wd) (a10 : Int32) (a9 : Int32) (a7 : Int32), Bk X (fun a => a = ad) cL_alike 15 RL (some (.boolean)) 11 199 vI (0, 0) (0, 0) ad σ 19 [(10, .int a10), (9, .int a9), (0, .ref (ad 0 0)), (1, .ref (ad 71 0)), (2, .ref (ad 72 0)), (3, .ref (ad 73 0)), (4, .ref (ad 74 0)), (5, .ref (ad 75 0)), (6, .ref (ad 76 0)), (7, .int a7), (8, .ref (ad 77 0))] [] (k19 σ a10 a9 a7)) (σ : Wd) (a11 : Int32) (a10 : Int32) (a7 : Int32) (s0 : Int32) (s1 : Int32) : Bk X (fun a => a = ad) cL_alike 15 RL (some (.boolean)) 11 199 vI (0, 0) (0, 0) ad σ 153 [(11, .int a11), (10, .int a10), (0, .ref (ad 0 0)), (1, .ref (ad 71 0)), (2, .ref (ad 72 0)), (3, .ref (ad 73 0)), (4, .ref (ad 74 0)), (5, .ref (ad 75 0)), (6, .ref (ad 76 0)), (7, .int a7), (8, .ref (ad 77 0))] [.int s0, .int s1] (j_L_alike_153 k19 σ a11 a10 a7 s0 s1) := by
  unfold j_L_alike_153
  refine r_icmp_ne 160 dL_alike_153 (by decide) ?_ ?_
  · refine r_iconst (1) (by decide) dL_alike_156 ?_
    refine r_goto 161 dL_alike_157 (by decide) ?_
    exact r_sub [0, 1, 2, 3, 4, 5, 6, 7, 8, 9, 10] rfl ((bj_L_alike_161 X hst ad hk19) _ _ _ _ _)
  · exact r_sub [0, 1, 2, 3, 4, 5, 6, 7, 8, 9, 10] rfl ((bj_L_alike_160 X hst ad hk19) _ _ _ _)
theorem bl_L_alike_19 (X : Xt) (hst : X.1.stackTraces = false) (ad : Ad) : ∀ (n : Nat) (σ : Wd) (a10 : Int32) (a9 : Int32) (a7 : Int32), Bk X (fun a => a = ad) cL_alike 15 RL (some (.boolean)) 11 199 vI (0, 0) (0, 0) ad σ 19 [(10, .int a10), (9, .int a9), (0, .ref (ad 0 0)), (1, .ref (ad 71 0)), (2, .ref (ad 72 0)), (3, .ref (ad 73 0)), (4, .ref (ad 74 0)), (5, .ref (ad 75 0)), (6, .ref (ad 76 0)), (7, .int a7), (8, .ref (ad 77 0))] [] (l_L_alike_19 n σ a10 a9 a7) := by
  intro n
  induction n with
  | zero => intros; exact r_none
  | succ n ih =>
  intro σ a10 a9 a7
  rw [l_L_alike_19]
  refine r_iload 0 rfl dL_alike_19 ?_
  refine r_iconst (4) (by decide) dL_alike_21 ?_
  refine r_icmp_ge 535 dL_alike_22 (by decide) ?_ ?_
  · refine r_iconst (0) (by decide) dL_alike_535 ?_
    refine r_istore [(10, .int _), (9, .int _), (0, .ref _), (1, .ref _), (2, .ref _), (3, .ref _), (4, .ref _), (5, .ref _), (6, .ref _), (7, .int _), (8, .ref _)] rfl (by decide) dL_alike_536 ?_
    exact r_sub [0, 1, 2, 3, 4, 5, 6, 7, 8, 9, 10] rfl ((bl_L_alike_538 X hst ad FU) _ _ _ _)
  · refine r_bipush (16) (by decide) dL_alike_25 ?_
    refine r_iload 0 rfl dL_alike_27 ?_
    refine r_imul dL_alike_29 ?_
    refine r_istore [(11, .int _), (10, .int _), (9, .int _), (0, .ref _), (1, .ref _), (2, .ref _), (3, .ref _), (4, .ref _), (5, .ref _), (6, .ref _), (7, .int _), (8, .ref _)] rfl (by decide) dL_alike_30 ?_
    refine r_iload 2 rfl dL_alike_32 ?_
    refine r_if_eq 160 dL_alike_34 (by decide) ?_ ?_
    · exact r_sub [0, 1, 3, 4, 5, 6, 7, 8, 9, 10, 11] rfl ((bj_L_alike_160 X hst ad ih) _ _ _ _)
    · refine r_aload_n 3 rfl dL_alike_37 ?_
      refine r_iload 1 rfl dL_alike_38 ?_
      refine r_iconst (0) (by decide) dL_alike_40 ?_
      refine r_callV (n := 2) (As := [.int _, .int _]) (cell_0 _ _ _ _) (lvs_0 _) rfl (nc_X9_about X hst ad _ _ _) (fun _ h => h) rfl ⟨rfl, by decide, by decide, by decide +kernel⟩ w_541 w_542 w_543 w_203 w_544 rfl rfl (Nat.le_of_ble_eq_true rfl) ⟨by decide, by decide⟩ dL_alike_41 (fun v34 σ35 => ?_)
      refine r_aload_n 4 rfl dL_alike_44 ?_
      refine r_iload 0 rfl dL_alike_45 ?_
      refine r_gd (fun h16 => ?_)
      refine r_iaload (lvs_71 _) (cell_71 _ _ _ _) h16 dL_alike_47 ?_
      refine r_icmp_ne 160 dL_alike_48 (by decide) ?_ ?_
      · refine r_aload_n 3 rfl dL_alike_51 ?_
        refine r_iload 1 rfl dL_alike_52 ?_
        refine r_iconst (1) (by decide) dL_alike_54 ?_
        refine r_callV (n := 2) (As := [.int _, .int _]) (cell_0 _ _ _ _) (lvs_0 _) rfl (nc_X9_about X hst ad _ _ _) (fun _ h => h) rfl ⟨rfl, by decide, by decide, by decide +kernel⟩ w_541 w_542 w_543 w_203 w_544 rfl rfl (Nat.le_of_ble_eq_true rfl) ⟨by decide, by decide⟩ dL_alike_55 (fun v36 σ37 => ?_)
        refine r_aload_n 4 rfl dL_alike_58 ?_
        refine r_iload 0 rfl dL_alike_59 ?_
        refine r_iconst (1) (by decide) dL_alike_61 ?_
        refine r_iadd dL_alike_62 ?_
        refine r_gd (fun h17 => ?_)
        refine r_iaload (lvs_71 _) (cell_71 _ _ _ _) h17 dL_alike_63 ?_
        refine r_icmp_ne 160 dL_alike_64 (by decide) ?_ ?_
        · refine r_aload_n 3 rfl dL_alike_67 ?_
          refine r_iload 1 rfl dL_alike_68 ?_
          refine r_callV (n := 1) (As := [.int _]) (cell_0 _ _ _ _) (lvs_0 _) rfl (nc_X9_kmAnew X hst ad _ _) (fun _ h => h) rfl ⟨rfl, by decide, by decide, by decide +kernel⟩ w_553 w_554 w_555 w_203 w_556 rfl rfl (Nat.le_of_ble_eq_true rfl) ⟨by decide, by decide⟩ dL_alike_70 (fun v38 σ39 => ?_)
          refine r_aload_n 4 rfl dL_alike_73 ?_
          refine r_iload 0 rfl dL_alike_74 ?_
          refine r_iconst (1) (by decide) dL_alike_76 ?_
          refine r_iadd dL_alike_77 ?_
          refine r_iaload (lvs_71 _) (cell_71 _ _ _ _) h17 dL_alike_78 ?_
          refine r_icmp_ne 160 dL_alike_79 (by decide) ?_ ?_
          · refine r_aload_n 3 rfl dL_alike_82 ?_
            refine r_iload 1 rfl dL_alike_83 ?_
            refine r_iconst (2) (by decide) dL_alike_85 ?_
            refine r_callV (n := 2) (As := [.int _, .int _]) (cell_0 _ _ _ _) (lvs_0 _) rfl (nc_X9_about X hst ad _ _ _) (fun _ h => h) rfl ⟨rfl, by decide, by decide, by decide +kernel⟩ w_541 w_542 w_543 w_203 w_544 rfl rfl (Nat.le_of_ble_eq_true rfl) ⟨by decide, by decide⟩ dL_alike_86 (fun v40 σ41 => ?_)
            refine r_aload_n 4 rfl dL_alike_89 ?_
            refine r_iload 0 rfl dL_alike_90 ?_
            refine r_bipush (12) (by decide) dL_alike_92 ?_
            refine r_iadd dL_alike_94 ?_
            refine r_gd (fun h18 => ?_)
            refine r_iaload (lvs_71 _) (cell_71 _ _ _ _) h18 dL_alike_95 ?_
            refine r_icmp_ne 160 dL_alike_96 (by decide) ?_ ?_
            · refine r_aload_n 3 rfl dL_alike_99 ?_
              refine r_iload 1 rfl dL_alike_100 ?_
              refine r_iconst (3) (by decide) dL_alike_102 ?_
              refine r_callV (n := 2) (As := [.int _, .int _]) (cell_0 _ _ _ _) (lvs_0 _) rfl (nc_X9_about X hst ad _ _ _) (fun _ h => h) rfl ⟨rfl, by decide, by decide, by decide +kernel⟩ w_541 w_542 w_543 w_203 w_544 rfl rfl (Nat.le_of_ble_eq_true rfl) ⟨by decide, by decide⟩ dL_alike_103 (fun v42 σ43 => ?_)
              refine r_aload 7 rfl dL_alike_106 ?_
              refine r_bipush (12) (by decide) dL_alike_108 ?_
              refine r_aload_n 4 rfl dL_alike_110 ?_
              refine r_iload 0 rfl dL_alike_111 ?_
              refine r_iaload (lvs_71 _) (cell_71 _ _ _ _) h16 dL_alike_113 ?_
              refine r_iadd dL_alike_114 ?_
              refine r_gd (fun h19 => ?_)
              refine r_iaload (lvs_74 _) (cell_74 _ _ _ _) h19 dL_alike_115 ?_
              refine r_iconst (1) (by decide) dL_alike_116 ?_
              refine r_isub dL_alike_117 ?_
              refine r_aload_n 4 rfl dL_alike_118 ?_
              refine r_aload 7 rfl dL_alike_119 ?_
              refine r_iload 1 rfl dL_alike_121 ?_
              refine r_callS (n := 3) (As := [.ref _, .ref _, .int _]) (nc_L_place X hst ad _ _) (fun _ h => h) rfl ⟨by decide, by decide, by decide +kernel⟩ w_507 w_508 w_502 w_509 rfl rfl (Nat.le_of_ble_eq_true rfl) ⟨by decide, by decide⟩ dL_alike_123 (fun v44 σ45 => ?_)
              refine r_isub dL_alike_126 ?_
              refine r_icmp_ne 160 dL_alike_127 (by decide) ?_ ?_
              · refine r_aload_n 3 rfl dL_alike_130 ?_
                refine r_iload 1 rfl dL_alike_131 ?_
                refine r_iconst (4) (by decide) dL_alike_133 ?_
                refine r_callV (n := 2) (As := [.int _, .int _]) (cell_0 _ _ _ _) (lvs_0 _) rfl (nc_X9_about X hst ad _ _ _) (fun _ h => h) rfl ⟨rfl, by decide, by decide, by decide +kernel⟩ w_541 w_542 w_543 w_203 w_544 rfl rfl (Nat.le_of_ble_eq_true rfl) ⟨by decide, by decide⟩ dL_alike_134 (fun v46 σ47 => ?_)
                refine r_aload_n 4 rfl dL_alike_137 ?_
                refine r_aload 9 rfl dL_alike_138 ?_
                refine r_iload 1 rfl dL_alike_140 ?_
                refine r_callS (n := 3) (As := [.ref _, .ref _, .int _]) (nc_L_soon X hst ad _ _) (fun _ h => h) rfl ⟨by decide, by decide, by decide +kernel⟩ w_500 w_501 w_502 w_503 rfl rfl (Nat.le_of_ble_eq_true rfl) ⟨by decide, by decide⟩ dL_alike_142 (fun v48 σ49 => ?_)
                refine r_if_eq 152 dL_alike_145 (by decide) ?_ ?_
                · refine r_iconst (0) (by decide) dL_alike_152 ?_
                  exact r_sub [0, 1, 3, 4, 5, 6, 7, 8, 9, 10, 11] rfl ((bj_L_alike_153 X hst ad ih) _ _ _ _ _ _)
                · refine r_iconst (1) (by decide) dL_alike_148 ?_
                  refine r_goto 153 dL_alike_149 (by decide) ?_
                  exact r_sub [0, 1, 3, 4, 5, 6, 7, 8, 9, 10, 11] rfl ((bj_L_alike_153 X hst ad ih) _ _ _ _ _ _)
              · exact r_sub [0, 1, 3, 4, 5, 6, 7, 8, 9, 10, 11] rfl ((bj_L_alike_160 X hst ad ih) _ _ _ _)
            · exact r_sub [0, 1, 3, 4, 5, 6, 7, 8, 9, 10, 11] rfl ((bj_L_alike_160 X hst ad ih) _ _ _ _)
          · exact r_sub [0, 1, 3, 4, 5, 6, 7, 8, 9, 10, 11] rfl ((bj_L_alike_160 X hst ad ih) _ _ _ _)
        · exact r_sub [0, 1, 3, 4, 5, 6, 7, 8, 9, 10, 11] rfl ((bj_L_alike_160 X hst ad ih) _ _ _ _)
      · exact r_sub [0, 1, 3, 4, 5, 6, 7, 8, 9, 10, 11] rfl ((bj_L_alike_160 X hst ad ih) _ _ _ _)
theorem bj_L_alike_14 (X : Xt) (hst : X.1.stackTraces = false) (ad : Ad) (σ : Wd) (a7 : Int32) (s0 : Int32) : Bk X (fun a => a = ad) cL_alike 15 RL (some (.boolean)) 11 199 vI (0, 0) (0, 0) ad σ 14 [(0, .ref (ad 0 0)), (1, .ref (ad 71 0)), (2, .ref (ad 72 0)), (3, .ref (ad 73 0)), (4, .ref (ad 74 0)), (5, .ref (ad 75 0)), (6, .ref (ad 76 0)), (7, .int a7), (8, .ref (ad 77 0))] [.int s0] (j_L_alike_14 σ a7 s0) := by
  unfold j_L_alike_14
  refine r_istore [(9, .int _), (0, .ref _), (1, .ref _), (2, .ref _), (3, .ref _), (4, .ref _), (5, .ref _), (6, .ref _), (7, .int _), (8, .ref _)] rfl (by decide) dL_alike_14 ?_
  refine r_iconst (0) (by decide) dL_alike_16 ?_
  refine r_istore [(10, .int _), (9, .int _), (0, .ref _), (1, .ref _), (2, .ref _), (3, .ref _), (4, .ref _), (5, .ref _), (6, .ref _), (7, .int _), (8, .ref _)] rfl (by decide) dL_alike_17 ?_
  exact r_sub [0, 1, 2, 3, 4, 5, 6, 7, 8, 9, 10] rfl ((bl_L_alike_19 X hst ad FU) _ _ _ _)
theorem nc_L_alike (X : Xt) (hst : X.1.stackTraces = false) (ad : Ad) (σ : Wd) (p7 : Int32) : NC X (fun a => a = ad) yL_alike cL_alike 15 (some (.boolean)) 11 199 vI (0, 0) ad σ [.ref (ad 0 0), .ref (ad 71 0), .ref (ad 72 0), .ref (ad 73 0), .ref (ad 74 0), .ref (ad 75 0), .ref (ad 76 0), .int p7, .ref (ad 77 0)] (f_L_alike σ p7) := by
  unfold f_L_alike
  refine NC.intro RL rfl hst (by decide) (Nat.le_of_ble_eq_true rfl) (lv := [(0, .ref _), (1, .ref _), (2, .ref _), (3, .ref _), (4, .ref _), (5, .ref _), (6, .ref _), (7, .int _), (8, .ref _)]) rfl ?_
  refine r_aload_n 0 rfl dL_alike_0 ?_
  refine r_callV (n := 0) (As := []) (cell_0 _ _ _ _) (lvs_0 _) rfl (nc_X9_today X hst ad _) (fun _ h => h) rfl ⟨rfl, by decide, by decide, by decide +kernel⟩ w_510 w_511 w_512 w_203 w_513 rfl rfl (Nat.le_of_ble_eq_true rfl) ⟨by decide, by decide⟩ dL_alike_1 (fun v1 σ2 => ?_)
  refine r_iload 7 rfl dL_alike_4 ?_
  refine r_icmp_ne 13 dL_alike_6 (by decide) ?_ ?_
  · refine r_iconst (1) (by decide) dL_alike_9 ?_
    refine r_goto 14 dL_alike_10 (by decide) ?_
    exact r_sub [0, 1, 2, 3, 4, 5, 6, 7, 8] rfl ((bj_L_alike_14 X hst ad) _ _ _)
  · refine r_iconst (0) (by decide) dL_alike_13 ?_
    exact r_sub [0, 1, 2, 3, 4, 5, 6, 7, 8] rfl ((bj_L_alike_14 X hst ad) _ _ _)
