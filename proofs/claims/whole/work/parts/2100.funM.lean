def fX10_in (x0 : Int64) (x2 : Int64) (x4 : Int64) : Int32 :=
  if (lg_cmp x0 x2) < (0 : Int32) then (
(0 : Int32))
else (
if (0 : Int32) < (lg_cmp x0 x4) then (
(0 : Int32))
else (
(1 : Int32)))

theorem nbX10_in (a b c : Int64) : narrow .boolean (.int (fX10_in a b c)) = .int (fX10_in a b c) := by
  unfold fX10_in
  repeat' split
  all_goals rfl

def fX10_isTwo (x0 : Int32) : Int32 :=
  (fX10_in x0.toInt64 (0 : Int64) (1 : Int64))

def fX10_has (x0 : Int32) (x1 : Int32) : Int32 :=
  if ((x0 >>> (x1 &&& (31 : Int32))) &&& (1 : Int32)) = (1 : Int32) then (
(1 : Int32))
else (
(0 : Int32))

def fX10_less (x0 : Int32) (x1 : Int32) : Int32 :=
  if x1 ≤ x0 then (
x1)
else (
x0)

def fX10_bits_L4 : Nat → Int32 → Int32 → Option Int32
  | 0, _, _ => none
  | n + 1, x1, x2 => if x2 = (0 : Int32) then (
some x1)
else (
un (x1 + (1 : Int32)) fun x_1 =>
un (x2 &&& (x2 - (1 : Int32))) fun x_2 =>
fX10_bits_L4 n x_1 x_2)

def fX10_bits (x0 : Int32) : Option Int32 :=
  fX10_bits_L4 fu (0 : Int32) x0

def fX10_copies_L3 (a0 : Nat) (a2 : Nat) : Nat → Sto → Int32 → Int32 → Int32 → Option Sto
  | 0, _, _, _, _ => none
  | n + 1, σ, x1, x3, x4 => if (59 : Int32) ≤ x4 then (
some σ)
else (
gd (vin (x1 + x4) (aLM a0)) (
gd (vin (x3 + x4) (aLM a2)) (
un (up σ a2 ((x3 + x4).toNatClampNeg) (σ a0 (x1 + x4).toNatClampNeg)) fun σ_3 =>
un (x4 + (1 : Int32)) fun x_4 =>
fX10_copies_L3 a0 a2 n σ_3 x1 x3 x_4)))

def fX10_copies (σ : Sto) (a0 : Nat) (x1 : Int32) (a2 : Nat) (x3 : Int32) : Option Sto :=
  fX10_copies_L3 a0 a2 fu σ x1 x3 (0 : Int32)

def fX10_found (σ : Sto) (x1 : Int32) : (Sto × Int32) :=
  un (up σ 0 3 x1) fun σ_1 =>
(σ_1, ((-1000010 : Int32) - x1))

def fX10_well (σ : Sto) (x1 : Int32) : (Sto × Int32) :=
  un (up σ 0 3 (0 : Int32)) fun σ_1 =>
(σ_1, x1)

def fX10_isRow (x0 : Int32) : Int32 :=
  (fX10_in x0.toInt64 (0 : Int64) (7 : Int64))

def fX10_row_L55 : Nat → Sto → Int32 → Int32 → Int32 → Option (Sto × Int32)
  | 0, _, _, _, _ => none
  | n + 1, σ, x1, x3, x4 => if (40 : Int32) ≤ x4 then (
un (fX10_well σ x3) fun q_1 =>
some (q_1.1, q_1.2))
else (
gd (vin (((40 : Int32) * x1) + x4) 320) (
un (up σ 3 ((((40 : Int32) * x1) + x4).toNatClampNeg) (0 : Int32)) fun σ_3 =>
un (x4 + (1 : Int32)) fun x_4 =>
fX10_row_L55 n σ_3 x1 x3 x_4))

def fX10_row (σ : Sto) (x1 : Int32) (x2 : Int32) (x3 : Int32) : Option (Sto × Int32) :=
  if (fX10_isRow x1) = (0 : Int32) then (
some (σ, (-1000001 : Int32)))
else (
if (fX10_in x2.toInt64 (0 : Int64) (2 : Int64)) = (0 : Int32) then (
some (σ, (-1000001 : Int32)))
else (
if x3 ≤ (40 : Int32) then (
if (0 : Int32) ≤ x3 then (
gd (vin x1 8) (
un (up σ 1 (x1.toNatClampNeg) x2) fun σ_4 =>
un (up σ_4 2 (x1.toNatClampNeg) x3) fun σ_5 =>
fX10_row_L55 fu σ_5 x1 x3 (0 : Int32)))
else (
un (fX10_found σ (4 : Int32)) fun q_6 =>
some (q_6.1, q_6.2)))
else (
some (σ, (-1000001 : Int32)))))

def fX10_set_j89 (σ : Sto) (x1 : Int32) (x2 : Int32) (y1 : Int32) (y2 : Int32) : Option (Sto × Int32) :=
  gd (vin y1 320) (
un (up σ 3 (y1.toNatClampNeg) y2) fun σ_2 =>
gd (vin (((40 : Int32) * x1) + x2) 320) (
un (fX10_well σ_2 (σ_2 3 (((40 : Int32) * x1) + x2).toNatClampNeg)) fun q_4 =>
some (q_4.1, q_4.2)))

def fX10_set (σ : Sto) (x1 : Int32) (x2 : Int32) (x3 : Int32) : Option (Sto × Int32) :=
  if (fX10_isRow x1) = (0 : Int32) then (
some (σ, (-1000001 : Int32)))
else (
gd (vin x1 8) (
if (0 : Int32) ≤ (σ 2 x1.toNatClampNeg) then (
if (fX10_in x2.toInt64 (0 : Int64) (((σ 2 x1.toNatClampNeg) - (1 : Int32)).toInt64)) = (0 : Int32) then (
un (fX10_found σ (2 : Int32)) fun q_4 =>
some (q_4.1, q_4.2))
else (
if (σ 1 x1.toNatClampNeg) = (0 : Int32) then (
fX10_set_j89 σ x1 x2 (((40 : Int32) * x1) + x2) x3.toInt8.toInt32)
else (
if (σ 1 x1.toNatClampNeg) = (1 : Int32) then (
fX10_set_j89 σ x1 x2 (((40 : Int32) * x1) + x2) x3.toInt16.toInt32)
else (
fX10_set_j89 σ x1 x2 (((40 : Int32) * x1) + x2) x3))))
else (
un (fX10_found σ (1 : Int32)) fun q_5 =>
some (q_5.1, q_5.2))))

def fX10_copy_j145 (k_120 : Sto → Int32 → Int32 → Int32 → Int32 → Int32 → Int32 → Option (Sto × Int32)) (σ : Sto) (x1 : Int32) (x2 : Int32) (x3 : Int32) (x4 : Int32) (x5 : Int32) (x6 : Int32) (y0 : Int32) : Option (Sto × Int32) :=
  gd (vin ((((40 : Int32) * x1) + x2) + y0) 320) (
gd (vin ((((40 : Int32) * x3) + x4) + y0) 320) (
un (up σ 3 (((((40 : Int32) * x3) + x4) + y0).toNatClampNeg) (σ 3 ((((40 : Int32) * x1) + x2) + y0).toNatClampNeg)) fun σ_3 =>
un (x6 + (1 : Int32)) fun x_4 =>
k_120 σ_3 x1 x2 x3 x4 x5 x_4))

def fX10_copy_L120 : Nat → Sto → Int32 → Int32 → Int32 → Int32 → Int32 → Int32 → Option (Sto × Int32)
  | 0, _, _, _, _, _, _, _ => none
  | n + 1, σ, x1, x2, x3, x4, x5, x6 => if x5 ≤ x6 then (
un (fX10_well σ x5) fun q_1 =>
some (q_1.1, q_1.2))
else (
if x4 ≤ x2 then (
fX10_copy_j145 (fX10_copy_L120 n) σ x1 x2 x3 x4 x5 x6 x6)
else (
fX10_copy_j145 (fX10_copy_L120 n) σ x1 x2 x3 x4 x5 x6 ((x5 - (1 : Int32)) - x6)))

def fX10_copy (σ : Sto) (x1 : Int32) (x2 : Int32) (x3 : Int32) (x4 : Int32) (x5 : Int32) : Option (Sto × Int32) :=
  if (fX10_isRow x1) = (0 : Int32) then (
some (σ, (-1000001 : Int32)))
else (
if (fX10_isRow x3) = (0 : Int32) then (
some (σ, (-1000001 : Int32)))
else (
gd (vin x1 8) (
if (σ 2 x1.toNatClampNeg) < (0 : Int32) then (
un (fX10_found σ (1 : Int32)) fun q_4 =>
some (q_4.1, q_4.2))
else (
gd (vin x3 8) (
if (0 : Int32) ≤ (σ 2 x3.toNatClampNeg) then (
if (σ 1 x1.toNatClampNeg) = (σ 1 x3.toNatClampNeg) then (
if x2 < (0 : Int32) then (
un (fX10_found σ (2 : Int32)) fun q_6 =>
some (q_6.1, q_6.2))
else (
if x4 < (0 : Int32) then (
un (fX10_found σ (2 : Int32)) fun q_7 =>
some (q_7.1, q_7.2))
else (
if x5 < (0 : Int32) then (
un (fX10_found σ (2 : Int32)) fun q_8 =>
some (q_8.1, q_8.2))
else (
if (0 : Int32) < (lg_cmp (x2.toInt64 + x5.toInt64) ((σ 2 x1.toNatClampNeg).toInt64)) then (
un (fX10_found σ (2 : Int32)) fun q_9 =>
some (q_9.1, q_9.2))
else (
if (lg_cmp (x4.toInt64 + x5.toInt64) ((σ 2 x3.toNatClampNeg).toInt64)) ≤ (0 : Int32) then (
fX10_copy_L120 fu σ x1 x2 x3 x4 x5 (0 : Int32))
else (
un (fX10_found σ (2 : Int32)) fun q_10 =>
some (q_10.1, q_10.2)))))))
else (
un (fX10_found σ (5 : Int32)) fun q_11 =>
some (q_11.1, q_11.2)))
else (
un (fX10_found σ (1 : Int32)) fun q_12 =>
some (q_12.1, q_12.2)))))))

def fX10_drop (σ : Sto) (x1 : Int32) : Option (Sto × Int32) :=
  if (fX10_isRow x1) = (0 : Int32) then (
some (σ, (-1000001 : Int32)))
else (
gd (vin x1 8) (
if (0 : Int32) ≤ (σ 2 x1.toNatClampNeg) then (
un (σ 2 x1.toNatClampNeg) fun x_3 =>
un (up σ 2 (x1.toNatClampNeg) (-1 : Int32)) fun σ_4 =>
un (fX10_well σ_4 x_3) fun q_5 =>
some (q_5.1, q_5.2))
else (
un (fX10_found σ (1 : Int32)) fun q_6 =>
some (q_6.1, q_6.2))))

def fX10_feed (σ : Sto) (x1 : Int32) : Option (Sto × Int32) :=
  if (fX10_in x1.toInt64 (0 : Int64) (255 : Int64)) = (0 : Int32) then (
some (σ, (-1000001 : Int32)))
else (
if (σ 0 12) = (90 : Int32) then (
some (σ, (-1000003 : Int32)))
else (
gd (vin (σ 0 12) 90) (
un (up σ 10 ((σ 0 12).toNatClampNeg) x1) fun σ_3 =>
un (up σ_3 0 12 ((σ_3 0 12) + (1 : Int32))) fun σ_4 =>
some (σ_4, (σ_4 0 12)))))

def fX10_here (σ : Sto) : Option Int32 :=
  if (σ 0 12) ≤ (σ 0 16) then (
some (-1 : Int32))
else (
gd (vin (σ 0 16) 90) (
some (σ 10 (σ 0 16).toNatClampNeg)))

def fX10_step_L131 (k_200 : Sto → Option Sto) : Nat → Sto → Option Sto
  | 0, _ => none
  | n + 1, σ => bd (fX10_here σ) fun q_1 =>
if (fX10_in q_1.toInt64 (48 : Int64) (57 : Int64)) = (0 : Int32) then (
k_200 σ)
else (
if (2 : Int32) ≤ ((σ 0 16) - (σ 0 17)) then (
un (up σ 0 19 (σ 0 19)) fun σ_3 =>
un (up σ_3 0 16 ((σ_3 0 16) + (1 : Int32))) fun σ_4 =>
fX10_step_L131 k_200 n σ_4)
else (
bd (fX10_here σ) fun q_5 =>
un (up σ 0 19 ((((10 : Int32) * (σ 0 19)) + q_5) - (48 : Int32))) fun σ_6 =>
un (up σ_6 0 16 ((σ_6 0 16) + (1 : Int32))) fun σ_7 =>
fX10_step_L131 k_200 n σ_7))

def fX10_step_j93 (σ : Sto) (y1 : Int32) : Option Sto :=
  un (up σ 0 18 y1) fun σ_1 =>
if (σ_1 0 18) = (2 : Int32) then (
un (up σ_1 0 19 (0 : Int32)) fun σ_2 =>
fX10_step_L131 (fun σ_3 =>
if ((σ_3 0 16) - (σ_3 0 17)) ≤ (2 : Int32) then (
un (up σ_3 0 18 (2 : Int32)) fun σ_4 =>
some σ_4)
else (
un (up σ_3 0 18 (4 : Int32)) fun σ_5 =>
some σ_5)) fu σ_2)
else (
if (σ_1 0 18) = (0 : Int32) then (
un (up σ_1 0 16 ((σ_1 0 16) + (0 : Int32))) fun σ_7 =>
some σ_7)
else (
un (up σ_1 0 16 ((σ_1 0 16) + (1 : Int32))) fun σ_6 =>
some σ_6))

def fX10_step_j88 (σ : Sto) : Option Sto :=
  fX10_step_j93 σ (3 : Int32)

def fX10_step (σ : Sto) : Option Sto :=
  un (up σ 0 17 (σ 0 16)) fun σ_1 =>
bd (fX10_here σ_1) fun q_2 =>
un (up σ_1 0 19 q_2) fun σ_3 =>
if (0 : Int32) ≤ (σ_3 0 19) then (
if (fX10_in ((σ_3 0 19).toInt64) (97 : Int64) (122 : Int64)) = (0 : Int32) then (
if (fX10_in ((σ_3 0 19).toInt64) (48 : Int64) (57 : Int64)) = (0 : Int32) then (
if (σ_3 0 19) = (44 : Int32) then (
fX10_step_j88 σ_3)
else (
if (σ_3 0 19) = (59 : Int32) then (
fX10_step_j88 σ_3)
else (
fX10_step_j93 σ_3 (4 : Int32))))
else (
fX10_step_j93 σ_3 (2 : Int32)))
else (
fX10_step_j93 σ_3 (1 : Int32)))
else (
fX10_step_j93 σ_3 (0 : Int32))

def fX10_fails (σ : Sto) (x1 : Int32) : (Sto × Int32) :=
  un (up σ 0 20 x1) fun σ_1 =>
(σ_1, (0 : Int32))

def fX10_number_j70 (σ : Sto) : Option (Sto × Int32) :=
  un (fX10_fails σ (1 : Int32)) fun q_1 =>
if q_1.2 = (0 : Int32) then (
some (q_1.1, (0 : Int32)))
else (
some (q_1.1, (1 : Int32)))

def fX10_number (σ : Sto) (x1 : Int32) (x2 : Int32) (x3 : Int32) (x4 : Int32) : Option (Sto × Int32) :=
  bd (fX10_step σ) fun q_1 =>
if (q_1 0 18) = (2 : Int32) then (
if (fX10_in ((q_1 0 19).toInt64) x2.toInt64 x3.toInt64) = (0 : Int32) then (
un (fX10_fails q_1 (2 : Int32)) fun q_6 =>
gd (isB q_6.2) (
some (q_6.1, q_6.2)))
else (
gd (vin x1 59) (
un (up q_1 5 (x1.toNatClampNeg) (q_1 0 19)) fun σ_4 =>
bd (fX10_step σ_4) fun q_5 =>
if (q_5 0 18) = (3 : Int32) then (
if (q_5 0 19) = x4 then (
some (q_5, (1 : Int32)))
else (
fX10_number_j70 q_5))
else (
fX10_number_j70 q_5))))
else (
un (fX10_fails q_1 (1 : Int32)) fun q_8 =>
gd (isB q_8.2) (
some (q_8.1, q_8.2)))

def fX10_sortOf (x0 : Int32) : Int32 :=
  if x0 = (99 : Int32) then (
(1 : Int32))
else (
if x0 = (108 : Int32) then (
(2 : Int32))
else (
if x0 = (116 : Int32) then (
(3 : Int32))
else (
if x0 = (112 : Int32) then (
(4 : Int32))
else (
if x0 = (97 : Int32) then (
(5 : Int32))
else (
(0 : Int32))))))

def fX10_readsRoom (σ : Sto) : Option (Sto × Int32) :=
  un (σ 5 0) fun x_1 =>
if x_1 = (10 : Int32) then (
un (fX10_fails σ (3 : Int32)) fun q_5 =>
gd (isB q_5.2) (
some (q_5.1, q_5.2)))
else (
un (up σ 5 0 ((σ 5 0) + (1 : Int32))) fun σ_2 =>
bd (fX10_number σ_2 ((5 : Int32) + x_1) (0 : Int32) (9 : Int32) (59 : Int32)) fun q_3 =>
gd (isB q_3.2) (
some (q_3.1, q_3.2)))

def fX10_readsThing_j36 (σ : Sto) (x1 : Int32) (y0 : Int32) : Option (Sto × Int32) :=
  if y0 = (0 : Int32) then (
un (fX10_fails σ (1 : Int32)) fun q_8 =>
gd (isB q_8.2) (
some (q_8.1, q_8.2)))
else (
if x1 = (6 : Int32) then (
un (fX10_fails σ (3 : Int32)) fun q_6 =>
gd (isB q_6.2) (
some (q_6.1, q_6.2)))
else (
gd (vin ((35 : Int32) + x1) 59) (
un (up σ 5 (((35 : Int32) + x1).toNatClampNeg) y0) fun σ_2 =>
un (up σ_2 5 1 ((σ_2 5 1) + (1 : Int32))) fun σ_3 =>
bd (fX10_number σ_3 ((47 : Int32) + x1) (0 : Int32) ((σ_3 5 0) - (1 : Int32)) (44 : Int32)) fun q_4 =>
if q_4.2 = (0 : Int32) then (
some (q_4.1, (0 : Int32)))
else (
bd (fX10_number q_4.1 ((41 : Int32) + x1) (1 : Int32) (9 : Int32) (59 : Int32)) fun q_5 =>
if q_5.2 = (0 : Int32) then (
some (q_5.1, (0 : Int32)))
else (
some (q_5.1, (1 : Int32)))))))

def fX10_readsThing_j35 (σ : Sto) (x1 : Int32) : Option (Sto × Int32) :=
  fX10_readsThing_j36 σ x1 (0 : Int32)

def fX10_readsThing (σ : Sto) : Option (Sto × Int32) :=
  un (σ 5 1) fun x_1 =>
if (σ 0 18) = (1 : Int32) then (
if (σ 5 0) ≤ (2 : Int32) then (
fX10_readsThing_j35 σ x_1)
else (
fX10_readsThing_j36 σ x_1 (fX10_sortOf (σ 0 19))))
else (
fX10_readsThing_j35 σ x_1)

def fX10_reads_L2 (k_21 : Sto → Option (Sto × Int32)) : Nat → Sto → Int32 → Option (Sto × Int32)
  | 0, _, _ => none
  | n + 1, σ, x1 => if (59 : Int32) ≤ x1 then (
k_21 σ)
else (
gd (vin x1 59) (
un (up σ 5 (x1.toNatClampNeg) (0 : Int32)) fun σ_2 =>
un (x1 + (1 : Int32)) fun x_3 =>
fX10_reads_L2 k_21 n σ_2 x_3))

def fX10_reads_j132 (k_85 : Sto → Option (Sto × Int32)) (σ : Sto) (y0 : Int32) : Option (Sto × Int32) :=
  if y0 = (0 : Int32) then (
bd (fX10_readsThing σ) fun q_1 =>
if q_1.2 = (0 : Int32) then (
some (q_1.1, (0 : Int32)))
else (
bd (fX10_step q_1.1) fun q_2 =>
k_85 q_2))
else (
bd (fX10_readsRoom σ) fun q_3 =>
if q_3.2 = (0 : Int32) then (
some (q_3.1, (0 : Int32)))
else (
bd (fX10_step q_3.1) fun q_4 =>
k_85 q_4))

def fX10_reads_j131 (k_85 : Sto → Option (Sto × Int32)) (σ : Sto) : Option (Sto × Int32) :=
  fX10_reads_j132 k_85 σ (0 : Int32)

def fX10_reads_j101 (k_85 : Sto → Option (Sto × Int32)) (σ : Sto) : Option (Sto × Int32) :=
  if (σ 0 18) = (1 : Int32) then (
if (σ 0 19) = (114 : Int32) then (
if (σ 5 1) = (0 : Int32) then (
fX10_reads_j132 k_85 σ (1 : Int32))
else (
fX10_reads_j131 k_85 σ))
else (
fX10_reads_j131 k_85 σ))
else (
fX10_reads_j131 k_85 σ)

def fX10_reads_L85 : Nat → Sto → Option (Sto × Int32)
  | 0, _ => none
  | n + 1, σ => if (σ 0 18) = (0 : Int32) then (
if (σ 5 1) = (0 : Int32) then (
fX10_reads_j101 (fX10_reads_L85 n) σ)
else (
some (σ, (1 : Int32))))
else (
fX10_reads_j101 (fX10_reads_L85 n) σ)

def fX10_reads (σ : Sto) : Option (Sto × Int32) :=
  fX10_reads_L2 (fun σ_1 =>
un (up σ_1 0 16 (0 : Int32)) fun σ_2 =>
bd (fX10_step σ_2) fun q_3 =>
if (q_3 0 18) = (1 : Int32) then (
if (q_3 0 19) = (118 : Int32) then (
bd (fX10_number q_3 (2 : Int32) (0 : Int32) (20 : Int32) (44 : Int32)) fun q_6 =>
if q_6.2 = (0 : Int32) then (
some (q_6.1, (0 : Int32)))
else (
bd (fX10_number q_6.1 (3 : Int32) (0 : Int32) (60 : Int32) (59 : Int32)) fun q_7 =>
if q_7.2 = (0 : Int32) then (
some (q_7.1, (0 : Int32)))
else (
bd (fX10_step q_7.1) fun q_8 =>
fX10_reads_L85 fu q_8)))
else (
un (fX10_fails q_3 (1 : Int32)) fun q_9 =>
gd (isB q_9.2) (
some (q_9.1, q_9.2))))
else (
un (fX10_fails q_3 (1 : Int32)) fun q_4 =>
gd (isB q_4.2) (
some (q_4.1, q_4.2)))) fu σ (0 : Int32)

def fX10_street (σ : Sto) : Option (Sto × Int32) :=
  bd (fX10_reads σ) fun q_1 =>
un (up q_1.1 0 12 (0 : Int32)) fun σ_2 =>
if q_1.2 = (0 : Int32) then (
un (up σ_2 0 13 (σ_2 0 20)) fun σ_5 =>
some (σ_5, ((-1000100 : Int32) - (σ_5 0 17))))
else (
bd (fX10_copies σ_2 5 (0 : Int32) 4 (0 : Int32)) fun q_3 =>
un (up q_3 0 8 (0 : Int32)) fun σ_4 =>
some (σ_4, (σ_4 4 1)))

def fX10_fault (σ : Sto) : Int32 :=
  (σ 0 13)

def fX10_flows_j57 (k_27 : Sto → Int32 → Int32 → Option Sto) (a0 : Nat) (σ : Sto) (x1 : Int32) (x2 : Int32) (y0 : Int32) : Option Sto :=
  gd (vin ((5 : Int32) + x2) 59) (
gd (vin ((15 : Int32) + x2) 59) (
gd (vin ((25 : Int32) + x2) 59) (
un ((((σ a0 ((5 : Int32) + x2).toNatClampNeg) + (σ a0 ((15 : Int32) + x2).toNatClampNeg)) - (σ a0 ((25 : Int32) + x2).toNatClampNeg)) - y0) fun x_4 =>
if x_4 < (2 : Int32) then (
un (x2 + (1 : Int32)) fun x_5 =>
k_27 σ x1 x_5)
else (
un (fX10_less (x_4 / (2 : Int32)) (σ a0 ((15 : Int32) + x2).toNatClampNeg)) fun x_7 =>
un (up σ a0 (((15 : Int32) + x2).toNatClampNeg) ((σ a0 ((15 : Int32) + x2).toNatClampNeg) - x_7)) fun σ_8 =>
gd (vin (((15 : Int32) + x2) + (1 : Int32)) 59) (
if x2 = x1 then (
un (up σ_8 a0 ((((15 : Int32) + x2) + (1 : Int32)).toNatClampNeg) ((σ_8 a0 (((15 : Int32) + x2) + (1 : Int32)).toNatClampNeg) + (0 : Int32))) fun σ_12 =>
un (x2 + (1 : Int32)) fun x_13 =>
k_27 σ_12 x1 x_13)
else (
un (up σ_8 a0 ((((15 : Int32) + x2) + (1 : Int32)).toNatClampNeg) ((σ_8 a0 (((15 : Int32) + x2) + (1 : Int32)).toNatClampNeg) + x_7)) fun σ_10 =>
un (x2 + (1 : Int32)) fun x_11 =>
k_27 σ_10 x1 x_11))))))

def fX10_flows_L27 (a0 : Nat) : Nat → Sto → Int32 → Int32 → Option Sto
  | 0, _, _, _ => none
  | n + 1, σ, x1, x2 => if x1 < x2 then (
some σ)
else (
if x2 = x1 then (
fX10_flows_j57 (fX10_flows_L27 a0 n) a0 σ x1 x2 (0 : Int32))
else (
gd (vin (((5 : Int32) + x2) + (1 : Int32)) 59) (
gd (vin (((15 : Int32) + x2) + (1 : Int32)) 59) (
fX10_flows_j57 (fX10_flows_L27 a0 n) a0 σ x1 x2 ((σ a0 (((5 : Int32) + x2) + (1 : Int32)).toNatClampNeg) + (σ a0 (((15 : Int32) + x2) + (1 : Int32)).toNatClampNeg))))))

def fX10_flows_j19 (a0 : Nat) (σ : Sto) : Option Sto :=
  un ((σ a0 0) - (1 : Int32)) fun x_1 =>
fX10_flows_L27 a0 fu σ x_1 (0 : Int32)

def fX10_flows (σ : Sto) (a0 : Nat) : Option Sto :=
  if (σ a0 3) ≤ (σ a0 4) then (
fX10_flows_j19 a0 σ)
else (
un (up σ a0 15 ((σ a0 15) + (σ a0 2))) fun σ_1 =>
fX10_flows_j19 a0 σ_1)

def fX10_lies (σ : Sto) (a0 : Nat) (x1 : Int32) : Option Int32 :=
  if x1 < (0 : Int32) then (
some (0 : Int32))
else (
gd (vin ((15 : Int32) + x1) 59) (
if (σ a0 ((15 : Int32) + x1).toNatClampNeg) ≤ (0 : Int32) then (
some (0 : Int32))
else (
some (1 : Int32))))

def fX10_stepsOf_j54 (a0 : Nat) (σ : Sto) (x1 : Int32) (x3 : Int32) (x4 : Int32) (y0 : Int32) : Option Int32 :=
  gd (vin ((35 : Int32) + x1) 59) (
if (σ a0 ((35 : Int32) + x1).toNatClampNeg) = (1 : Int32) then (
if x4 = (0 : Int32) then (
some (0 : Int32))
else (
some (1 : Int32)))
else (if (σ a0 ((35 : Int32) + x1).toNatClampNeg) = (2 : Int32) then (
if x3 = (0 : Int32) then (
some (0 : Int32))
else (
some (2 : Int32)))
else (if (σ a0 ((35 : Int32) + x1).toNatClampNeg) = (3 : Int32) then (
if x4 = (0 : Int32) then (
some (0 : Int32))
else (
if (irm (σ a0 4) (2 : Int32)) = (0 : Int32) then (
some (1 : Int32))
else (
some (0 : Int32))))
else (if (σ a0 ((35 : Int32) + x1).toNatClampNeg) = (4 : Int32) then (
if y0 = (0 : Int32) then (
some (0 : Int32))
else (
some (1 : Int32)))
else (
if x3 = (0 : Int32) then (
if y0 = (0 : Int32) then (
some (0 : Int32))
else (
some (1 : Int32)))
else (
some (2 : Int32)))))))

def fX10_stepsOf_j49 (a0 : Nat) (σ : Sto) (x1 : Int32) (x3 : Int32) (x4 : Int32) : Option Int32 :=
  fX10_stepsOf_j54 a0 σ x1 x3 x4 (1 : Int32)

def fX10_stepsOf_j32 (a0 : Nat) (σ : Sto) (x1 : Int32) (x2 : Int32) (x3 : Int32) (y0 : Int32) : Option Int32 :=
  if y0 = (0 : Int32) then (
bd (fX10_lies σ a0 (x2 - (2 : Int32))) fun q_1 =>
if q_1 = (0 : Int32) then (
fX10_stepsOf_j54 a0 σ x1 x3 y0 (0 : Int32))
else (
fX10_stepsOf_j49 a0 σ x1 x3 y0))
else (
fX10_stepsOf_j49 a0 σ x1 x3 y0)

def fX10_stepsOf_j27 (a0 : Nat) (σ : Sto) (x1 : Int32) (x2 : Int32) (x3 : Int32) : Option Int32 :=
  fX10_stepsOf_j32 a0 σ x1 x2 x3 (1 : Int32)

def fX10_stepsOf (σ : Sto) (a0 : Nat) (x1 : Int32) : Option Int32 :=
  gd (vin ((47 : Int32) + x1) 59) (
un (σ a0 ((47 : Int32) + x1).toNatClampNeg) fun x_2 =>
bd (fX10_lies σ a0 x_2) fun q_3 =>
if q_3 = (0 : Int32) then (
bd (fX10_lies σ a0 (x_2 - (1 : Int32))) fun q_4 =>
if q_4 = (0 : Int32) then (
fX10_stepsOf_j32 a0 σ x1 x_2 q_3 (0 : Int32))
else (
fX10_stepsOf_j27 a0 σ x1 x_2 q_3))
else (
fX10_stepsOf_j27 a0 σ x1 x_2 q_3))

def fX10_goes (σ : Sto) (a0 : Nat) (x1 : Int32) (x2 : Int32) : Option Sto :=
  gd (vin ((47 : Int32) + x1) 59) (
if ((σ a0 ((47 : Int32) + x1).toNatClampNeg) + x2) < (σ a0 0) then (
un (up σ a0 (((47 : Int32) + x1).toNatClampNeg) ((σ a0 ((47 : Int32) + x1).toNatClampNeg) + x2)) fun σ_2 =>
some σ_2)
else (
gd (vin ((53 : Int32) + x1) 59) (
un (up σ a0 (((53 : Int32) + x1).toNatClampNeg) (1 : Int32)) fun σ_4 =>
some σ_4)))

def fX10_passes_L6 (k_38 : Sto → Option Sto) (a0 : Nat) : Nat → Sto → Int32 → Option Sto
  | 0, _, _ => none
  | n + 1, σ, x1 => if (σ a0 1) ≤ x1 then (
k_38 σ)
else (
gd (vin ((53 : Int32) + x1) 59) (
if (σ a0 ((53 : Int32) + x1).toNatClampNeg) = (0 : Int32) then (
bd (fX10_stepsOf σ a0 x1) fun q_3 =>
bd (fX10_goes σ a0 x1 q_3) fun q_4 =>
un (x1 + (1 : Int32)) fun x_5 =>
fX10_passes_L6 k_38 a0 n q_4 x_5)
else (
un (x1 + (1 : Int32)) fun x_2 =>
fX10_passes_L6 k_38 a0 n σ x_2)))

def fX10_passes_L40 (a0 : Nat) : Nat → Sto → Int32 → Option Sto
  | 0, _, _ => none
  | n + 1, σ, x1 => if (σ a0 1) ≤ x1 then (
un (up σ a0 4 ((σ a0 4) + (1 : Int32))) fun σ_1 =>
some σ_1)
else (
gd (vin ((53 : Int32) + x1) 59) (
if (σ a0 ((53 : Int32) + x1).toNatClampNeg) = (0 : Int32) then (
gd (vin ((47 : Int32) + x1) 59) (
gd (vin ((15 : Int32) + (σ a0 ((47 : Int32) + x1).toNatClampNeg)) 59) (
gd (vin ((41 : Int32) + x1) 59) (
if (σ a0 ((15 : Int32) + (σ a0 ((47 : Int32) + x1).toNatClampNeg)).toNatClampNeg) < (σ a0 ((41 : Int32) + x1).toNatClampNeg) then (
un (x1 + (1 : Int32)) fun x_7 =>
fX10_passes_L40 a0 n σ x_7)
else (
un (up σ a0 (((53 : Int32) + x1).toNatClampNeg) (2 : Int32)) fun σ_8 =>
un (x1 + (1 : Int32)) fun x_9 =>
fX10_passes_L40 a0 n σ_8 x_9)))))
else (
un (x1 + (1 : Int32)) fun x_3 =>
fX10_passes_L40 a0 n σ x_3)))

def fX10_passes (σ : Sto) (a0 : Nat) : Option Sto :=
  bd (fX10_flows σ a0) fun q_1 =>
fX10_passes_L6 (fun σ_2 =>
fX10_passes_L40 a0 fu σ_2 (0 : Int32)) a0 fu q_1 (0 : Int32)

def fX10_goesBy_L2 (a0 : Nat) : Nat → Sto → Int32 → Int32 → Option Sto
  | 0, _, _, _ => none
  | n + 1, σ, x1, x2 => if x1 ≤ x2 then (
some σ)
else (
bd (fX10_passes σ a0) fun q_1 =>
un (x2 + (1 : Int32)) fun x_2 =>
fX10_goesBy_L2 a0 n q_1 x1 x_2)

def fX10_goesBy (σ : Sto) (a0 : Nat) (x1 : Int32) : Option Sto :=
  fX10_goesBy_L2 a0 fu σ x1 (0 : Int32)

def fX10_whereOf (σ : Sto) (a0 : Nat) (x1 : Int32) : Option Int32 :=
  gd (vin ((53 : Int32) + x1) 59) (
if (σ a0 ((53 : Int32) + x1).toNatClampNeg) = (1 : Int32) then (
some (20 : Int32))
else (
if (σ a0 ((53 : Int32) + x1).toNatClampNeg) = (2 : Int32) then (
gd (vin ((47 : Int32) + x1) 59) (
some ((30 : Int32) + (σ a0 ((47 : Int32) + x1).toNatClampNeg))))
else (
gd (vin ((47 : Int32) + x1) 59) (
some (σ a0 ((47 : Int32) + x1).toNatClampNeg)))))

def fX10_those_L4 (a0 : Nat) (σ : Sto) : Nat → Int32 → Int32 → Int32 → Option Int32
  | 0, _, _, _ => none
  | n + 1, x1, x2, x3 => if (σ a0 1) ≤ x3 then (
some x2)
else (
gd (vin ((53 : Int32) + x3) 59) (
if (σ a0 ((53 : Int32) + x3).toNatClampNeg) = x1 then (
un (x2 ||| ((1 : Int32) <<< (x3 &&& (31 : Int32)))) fun x_4 =>
un (x3 + (1 : Int32)) fun x_5 =>
fX10_those_L4 a0 σ n x1 x_4 x_5)
else (
un (x2 ||| (0 : Int32)) fun x_2 =>
un (x3 + (1 : Int32)) fun x_3 =>
fX10_those_L4 a0 σ n x1 x_2 x_3)))

def fX10_those (σ : Sto) (a0 : Nat) (x1 : Int32) : Option Int32 :=
  fX10_those_L4 a0 σ fu x1 (0 : Int32) (0 : Int32)

def fX10_stones (σ : Sto) (a0 : Nat) : Option Int32 :=
  bd (fX10_those σ a0 (2 : Int32)) fun q_1 =>
bd (fX10_bits q_1) fun q_2 =>
some q_2

def fX10_isThing (σ : Sto) (x1 : Int32) : Int32 :=
  (fX10_in x1.toInt64 (0 : Int64) (((σ 4 1) - (1 : Int32)).toInt64))

def fX10_isRoom (σ : Sto) (x1 : Int32) : Int32 :=
  (fX10_in x1.toInt64 (0 : Int64) (((σ 4 0) - (1 : Int32)).toInt64))

def fX10_isThere (σ : Sto) : Int32 :=
  if (σ 4 0) ≤ (0 : Int32) then (
(0 : Int32))
else (
(1 : Int32))

def fX10_notes_j49 (σ : Sto) : Option Sto :=
  bd (fX10_copies σ 4 (0 : Int32) 7 ((59 : Int32) * (σ 0 8))) fun q_1 =>
un (up q_1 0 8 ((q_1 0 8) + (1 : Int32))) fun σ_2 =>
some σ_2

def fX10_notes_L11 (k_39 : Sto → Option Sto) : Nat → Sto → Int32 → Option Sto
  | 0, _, _ => none
  | n + 1, σ, x1 => if (1357 : Int32) ≤ x1 then (
k_39 σ)
else (
gd (vin (x1 + (59 : Int32)) 1416) (
gd (vin x1 1416) (
un (up σ 7 (x1.toNatClampNeg) (σ 7 (x1 + (59 : Int32)).toNatClampNeg)) fun σ_3 =>
un (x1 + (1 : Int32)) fun x_4 =>
fX10_notes_L11 k_39 n σ_3 x_4)))

def fX10_notes (σ : Sto) : Option Sto :=
  if (σ 0 8) = (24 : Int32) then (
fX10_notes_L11 (fun σ_1 =>
un (up σ_1 0 8 ((σ_1 0 8) - (1 : Int32))) fun σ_2 =>
fX10_notes_j49 σ_2) fu σ (0 : Int32))
else (
fX10_notes_j49 σ)

def fX10_undo (σ : Sto) : Option (Sto × Int32) :=
  if (σ 0 8) = (0 : Int32) then (
some (σ, (-1000002 : Int32)))
else (
un (up σ 0 8 ((σ 0 8) - (1 : Int32))) fun σ_1 =>
bd (fX10_copies σ_1 7 ((59 : Int32) * (σ_1 0 8)) 4 (0 : Int32)) fun q_2 =>
some (q_2, (q_2 0 8)))

def fX10_days_L44 : Nat → Sto → Int32 → Int32 → Option (Sto × Int32)
  | 0, _, _, _ => none
  | n + 1, σ, x1, x2 => if x1 ≤ x2 then (
bd (fX10_those σ 4 (2 : Int32)) fun q_1 =>
some (σ, q_1))
else (
bd (fX10_notes σ) fun q_2 =>
bd (fX10_passes q_2 4) fun q_3 =>
un (x2 + (1 : Int32)) fun x_4 =>
fX10_days_L44 n q_3 x1 x_4)

def fX10_days (σ : Sto) (x1 : Int32) : Option (Sto × Int32) :=
  if (fX10_isThere σ) = (0 : Int32) then (
some (σ, (-1000002 : Int32)))
else (
if (fX10_in x1.toInt64 (1 : Int64) (24 : Int64)) = (0 : Int32) then (
some (σ, (-1000001 : Int32)))
else (
if ((σ 4 4) + x1) ≤ (999 : Int32) then (
fX10_days_L44 fu σ x1 (0 : Int32))
else (
some (σ, (-1000003 : Int32)))))

def fX10_wall (σ : Sto) (x1 : Int32) (x2 : Int32) : Option (Sto × Int32) :=
  if (fX10_isRoom σ x1) = (0 : Int32) then (
some (σ, (-1000001 : Int32)))
else (
if (fX10_in x2.toInt64 (0 : Int64) (9 : Int64)) = (0 : Int32) then (
some (σ, (-1000001 : Int32)))
else (
bd (fX10_notes σ) fun q_3 =>
gd (vin ((25 : Int32) + x1) 59) (
un (q_3 4 ((25 : Int32) + x1).toNatClampNeg) fun x_5 =>
un (up q_3 4 (((25 : Int32) + x1).toNatClampNeg) x2) fun σ_6 =>
some (σ_6, x_5))))

def fX10_carry (σ : Sto) (x1 : Int32) : Option (Sto × Int32) :=
  if (fX10_isThing σ x1) = (0 : Int32) then (
some (σ, (-1000001 : Int32)))
else (
gd (vin ((53 : Int32) + x1) 59) (
if (σ 4 ((53 : Int32) + x1).toNatClampNeg) = (0 : Int32) then (
bd (fX10_notes σ) fun q_3 =>
bd (fX10_goes q_3 4 x1 (1 : Int32)) fun q_4 =>
bd (fX10_whereOf q_4 4 x1) fun q_5 =>
some (q_4, q_5))
else (
some (σ, (-1000002 : Int32)))))

def fX10_feeding (σ : Sto) (x1 : Int32) : Option (Sto × Int32) :=
  if (fX10_isThere σ) = (0 : Int32) then (
some (σ, (-1000002 : Int32)))
else (
if (fX10_in x1.toInt64 (0 : Int64) (20 : Int64)) = (0 : Int32) then (
some (σ, (-1000001 : Int32)))
else (
bd (fX10_notes σ) fun q_3 =>
un (q_3 4 2) fun x_4 =>
un (up q_3 4 2 x1) fun σ_5 =>
some (σ_5, x_4)))

def fX10_dig (σ : Sto) (x1 : Int32) : Option (Sto × Int32) :=
  if (fX10_isThing σ x1) = (0 : Int32) then (
some (σ, (-1000001 : Int32)))
else (
gd (vin ((53 : Int32) + x1) 59) (
if (σ 4 ((53 : Int32) + x1).toNatClampNeg) = (2 : Int32) then (
bd (fX10_notes σ) fun q_3 =>
un (up q_3 4 (((53 : Int32) + x1).toNatClampNeg) (1 : Int32)) fun σ_4 =>
bd (fX10_those σ_4 4 (2 : Int32)) fun q_5 =>
some (σ_4, q_5))
else (
some (σ, (-1000002 : Int32)))))

def fX10_thing (σ : Sto) (x1 : Int32) (x2 : Int32) : Option Int32 :=
  if (fX10_isThing σ x1) = (0 : Int32) then (
some (-1000001 : Int32))
else (
if (fX10_in x2.toInt64 (0 : Int64) (2 : Int64)) = (0 : Int32) then (
some (-1000001 : Int32))
else (
if x2 = (0 : Int32) then (
gd (vin ((41 : Int32) + x1) 59) (
some (σ 4 ((41 : Int32) + x1).toNatClampNeg)))
else (
if x2 = (1 : Int32) then (
bd (fX10_whereOf σ 4 x1) fun q_6 =>
some q_6)
else (
gd (vin ((53 : Int32) + x1) 59) (
if (σ 4 ((53 : Int32) + x1).toNatClampNeg) = (1 : Int32) then (
some (0 : Int32))
else (
gd (vin ((47 : Int32) + x1) 59) (
gd (vin ((15 : Int32) + (σ 4 ((47 : Int32) + x1).toNatClampNeg)) 59) (
some (σ 4 ((15 : Int32) + (σ 4 ((47 : Int32) + x1).toNatClampNeg)).toNatClampNeg)))))))))

def fX10_thoseIn_L5 (σ : Sto) : Nat → Int32 → Int32 → Int32 → Int32 → Option Int32
  | 0, _, _, _, _ => none
  | n + 1, x1, x2, x3, x4 => if (σ 4 1) ≤ x4 then (
some x3)
else (
gd (vin ((53 : Int32) + x4) 59) (
if (σ 4 ((53 : Int32) + x4).toNatClampNeg) = x2 then (
gd (vin ((47 : Int32) + x4) 59) (
if (σ 4 ((47 : Int32) + x4).toNatClampNeg) = x1 then (
un (x3 ||| ((1 : Int32) <<< (x4 &&& (31 : Int32)))) fun x_7 =>
un (x4 + (1 : Int32)) fun x_8 =>
fX10_thoseIn_L5 σ n x1 x2 x_7 x_8)
else (
un (x3 ||| (0 : Int32)) fun x_5 =>
un (x4 + (1 : Int32)) fun x_6 =>
fX10_thoseIn_L5 σ n x1 x2 x_5 x_6)))
else (
un (x3 ||| (0 : Int32)) fun x_2 =>
un (x4 + (1 : Int32)) fun x_3 =>
fX10_thoseIn_L5 σ n x1 x2 x_2 x_3)))

def fX10_thoseIn (σ : Sto) (x1 : Int32) (x2 : Int32) : Option Int32 :=
  fX10_thoseIn_L5 σ fu x1 x2 (0 : Int32) (0 : Int32)

def fX10_roomOf (σ : Sto) (x1 : Int32) (x2 : Int32) : Option Int32 :=
  if (fX10_isRoom σ x1) = (0 : Int32) then (
some (-1000001 : Int32))
else (
if x2 = (0 : Int32) then (
gd (vin ((5 : Int32) + x1) 59) (
some (σ 4 ((5 : Int32) + x1).toNatClampNeg)))
else (if x2 = (1 : Int32) then (
gd (vin ((15 : Int32) + x1) 59) (
some (σ 4 ((15 : Int32) + x1).toNatClampNeg)))
else (if x2 = (2 : Int32) then (
gd (vin ((25 : Int32) + x1) 59) (
some (σ 4 ((25 : Int32) + x1).toNatClampNeg)))
else (if x2 = (3 : Int32) then (
bd (fX10_thoseIn σ x1 (0 : Int32)) fun q_9 =>
some q_9)
else (if x2 = (4 : Int32) then (
bd (fX10_thoseIn σ x1 (2 : Int32)) fun q_11 =>
some q_11)
else (
some (-1000001 : Int32)))))))

def fX10_stand (σ : Sto) (x1 : Int32) : Option Int32 :=
  if (fX10_isThere σ) = (0 : Int32) then (
some (-1000002 : Int32))
else (
if x1 = (0 : Int32) then (
some (σ 4 0))
else (if x1 = (1 : Int32) then (
some (σ 4 2))
else (if x1 = (2 : Int32) then (
some (σ 4 3))
else (if x1 = (3 : Int32) then (
bd (fX10_those σ 4 (0 : Int32)) fun q_6 =>
some q_6)
else (if x1 = (4 : Int32) then (
bd (fX10_those σ 4 (2 : Int32)) fun q_8 =>
some q_8)
else (if x1 = (5 : Int32) then (
bd (fX10_those σ 4 (1 : Int32)) fun q_10 =>
some q_10)
else (
some (-1000001 : Int32))))))))

def fX10_laysAside (σ : Sto) (x1 : Int32) : Option Sto :=
  bd (fX10_copies σ 4 (0 : Int32) 6 (0 : Int32)) fun q_1 =>
bd (fX10_goesBy q_1 6 x1) fun q_2 =>
some q_2

def fX10_ahead (σ : Sto) (x1 : Int32) (x2 : Int32) : Option (Sto × Int32) :=
  if (fX10_isThing σ x1) = (0 : Int32) then (
some (σ, (-1000001 : Int32)))
else (
if (fX10_in x2.toInt64 (0 : Int64) (60 : Int64)) = (0 : Int32) then (
some (σ, (-1000001 : Int32)))
else (
bd (fX10_laysAside σ x2) fun q_3 =>
bd (fX10_whereOf q_3 6 x1) fun q_4 =>
some (q_3, q_4)))

def fX10_lava (σ : Sto) (x1 : Int32) (x2 : Int32) : Option (Sto × Int32) :=
  if (fX10_isRoom σ x1) = (0 : Int32) then (
some (σ, (-1000001 : Int32)))
else (
if (fX10_in x2.toInt64 (0 : Int64) (60 : Int64)) = (0 : Int32) then (
some (σ, (-1000001 : Int32)))
else (
bd (fX10_laysAside σ x2) fun q_3 =>
gd (vin ((15 : Int32) + x1) 59) (
some (q_3, (q_3 6 ((15 : Int32) + x1).toNatClampNeg)))))

def fX10_kept (σ : Sto) (x1 : Int32) (x2 : Int32) : Option (Sto × Int32) :=
  if (fX10_isThere σ) = (0 : Int32) then (
some (σ, (-1000002 : Int32)))
else (
if (fX10_in x1.toInt64 (0 : Int64) (60 : Int64)) = (0 : Int32) then (
some (σ, (-1000001 : Int32)))
else (
if (fX10_isTwo x2) = (0 : Int32) then (
some (σ, (-1000001 : Int32)))
else (
bd (fX10_laysAside σ x1) fun q_4 =>
if x2 = (0 : Int32) then (
bd (fX10_those q_4 6 (2 : Int32)) fun q_6 =>
some (q_4, q_6))
else (
bd (fX10_those q_4 6 (1 : Int32)) fun q_5 =>
some (q_4, q_5)))))

def fX10_isSo_j61 (σ : Sto) (y0 : Int32) (y1 : Int32) : Option Int32 :=
  if y0 = y1 then (
some (1 : Int32))
else (
some (0 : Int32))

def fX10_isSo (σ : Sto) (x1 : Int32) (x2 : Int32) : Option Int32 :=
  gd (vin ((53 : Int32) + x1) 59) (
un (σ 6 ((53 : Int32) + x1).toNatClampNeg) fun x_2 =>
if x2 = (0 : Int32) then (
if x_2 = (2 : Int32) then (
some (1 : Int32))
else (
if x_2 = (0 : Int32) then (
gd (vin ((47 : Int32) + x1) 59) (
bd (fX10_lies σ 6 (σ 6 ((47 : Int32) + x1).toNatClampNeg)) fun q_4 =>
if q_4 = (0 : Int32) then (
some (0 : Int32))
else (
some (1 : Int32))))
else (
some (0 : Int32))))
else (
if x2 = (1 : Int32) then (
fX10_isSo_j61 σ x_2 (2 : Int32))
else (
fX10_isSo_j61 σ x_2 (1 : Int32))))

def fX10_when_L30 : Nat → Sto → Int32 → Int32 → Int32 → Option (Sto × Int32)
  | 0, _, _, _, _ => none
  | n + 1, σ, x1, x2, x3 => if (61 : Int32) ≤ x3 then (
some (σ, (-1000000 : Int32)))
else (
bd (fX10_isSo σ x1 x2) fun q_1 =>
if q_1 = (0 : Int32) then (
bd (fX10_passes σ 6) fun q_2 =>
un (x3 + (1 : Int32)) fun x_3 =>
fX10_when_L30 n q_2 x1 x2 x_3)
else (
some (σ, x3)))

def fX10_when (σ : Sto) (x1 : Int32) (x2 : Int32) : Option (Sto × Int32) :=
  if (fX10_isThing σ x1) = (0 : Int32) then (
some (σ, (-1000001 : Int32)))
else (
if (fX10_in x2.toInt64 (0 : Int64) (2 : Int64)) = (0 : Int32) then (
some (σ, (-1000001 : Int32)))
else (
bd (fX10_laysAside σ (0 : Int32)) fun q_3 =>
fX10_when_L30 fu q_3 x1 x2 (0 : Int32)))

def fX10_front_L35 : Nat → Sto → Int32 → Int32 → Option (Sto × Int32)
  | 0, _, _, _ => none
  | n + 1, σ, x2, x3 => if (σ 4 0) ≤ x3 then (
some (σ, x2))
else (
bd (fX10_lies σ 6 x3) fun q_1 =>
if q_1 = (0 : Int32) then (
un (x3 + (1 : Int32)) fun x_2 =>
fX10_front_L35 n σ x2 x_2)
else (
un (x3 + (1 : Int32)) fun x_3 =>
fX10_front_L35 n σ x3 x_3))

def fX10_front (σ : Sto) (x1 : Int32) : Option (Sto × Int32) :=
  if (fX10_isThere σ) = (0 : Int32) then (
some (σ, (-1000002 : Int32)))
else (
if (fX10_in x1.toInt64 (0 : Int64) (60 : Int64)) = (0 : Int32) then (
some (σ, (-1000001 : Int32)))
else (
bd (fX10_laysAside σ x1) fun q_3 =>
fX10_front_L35 fu q_3 (-1000000 : Int32) (0 : Int32)))

def fX10_power_L4 : Nat → Int32 → Int32 → Int32 → Int32 → Option Int32
  | 0, _, _, _, _ => none
  | n + 1, x0, x1, x2, x3 => if x1 ≤ x3 then (
some x2)
else (
un (x2 * x0) fun x_1 =>
un (x3 + (1 : Int32)) fun x_2 =>
fX10_power_L4 n x0 x1 x_1 x_2)

def fX10_power (x0 : Int32) (x1 : Int32) : Option Int32 :=
  fX10_power_L4 fu x0 x1 (1 : Int32) (0 : Int32)

def fX10_keeps_L26 : Nat → Sto → Int32 → Int32 → Int32 → Int32 → Option (Sto × Int32)
  | 0, _, _, _, _, _ => none
  | n + 1, σ, x1, x3, x4, x5 => if x5 ≤ (0 : Int32) then (
bd (fX10_goesBy σ 6 x3) fun q_1 =>
bd (fX10_stones q_1 6) fun q_2 =>
some (q_1, q_2))
else (
gd (nz x5) (
gd (nz x4) (
un (irm (x1 / x5) x4) fun x_5 =>
if (σ 4 1) ≤ x_5 then (
bd (fX10_passes σ 6) fun q_6 =>
un (x5 / x4) fun x_7 =>
fX10_keeps_L26 n q_6 x1 x3 x4 x_7)
else (
gd (vin ((53 : Int32) + x_5) 59) (
if (σ 6 ((53 : Int32) + x_5).toNatClampNeg) = (0 : Int32) then (
bd (fX10_goes σ 6 x_5 (1 : Int32)) fun q_12 =>
bd (fX10_passes q_12 6) fun q_13 =>
un (x5 / x4) fun x_14 =>
fX10_keeps_L26 n q_13 x1 x3 x4 x_14)
else (
bd (fX10_goes σ 6 x_5 (0 : Int32)) fun q_9 =>
bd (fX10_passes q_9 6) fun q_10 =>
un (x5 / x4) fun x_11 =>
fX10_keeps_L26 n q_10 x1 x3 x4 x_11))))))

def fX10_keeps (σ : Sto) (x1 : Int32) (x2 : Int32) (x3 : Int32) : Option (Sto × Int32) :=
  un ((σ 4 1) + (1 : Int32)) fun x_1 =>
bd (fX10_laysAside σ (0 : Int32)) fun q_2 =>
bd (fX10_power x_1 x2) fun q_3 =>
gd (nz x_1) (
un (q_3 / x_1) fun x_5 =>
fX10_keeps_L26 fu q_2 x1 x3 x_1 x_5)

def fX10_carries_L62 (k_114 : Sto → Int32 → Int32 → Int32 → Int32 → Int32 → Option (Sto × Int32)) : Nat → Sto → Int32 → Int32 → Int32 → Int32 → Int32 → Int32 → Int32 → Option (Sto × Int32)
  | 0, _, _, _, _, _, _, _, _ => none
  | n + 1, σ, x1, x2, x3, x4, x5, x6, x7 => bd (fX10_power x4 x1) fun q_1 =>
if q_1 ≤ x7 then (
k_114 σ x1 x3 x4 x5 x6)
else (
bd (fX10_keeps σ x7 x1 x2) fun q_2 =>
if x5 ≤ q_2.2 then (
un (fX10_less x5 q_2.2) fun x_4 =>
un (x7 + (1 : Int32)) fun x_5 =>
fX10_carries_L62 k_114 n q_2.1 x1 x2 x3 x4 x_4 x6 x_5)
else (
un (fX10_less x5 q_2.2) fun x_7 =>
un (x7 + (1 : Int32)) fun x_8 =>
fX10_carries_L62 k_114 n q_2.1 x1 x2 x3 x4 x_7 x7 x_8))

def fX10_carries_j149 (σ : Sto) (x4 : Int32) (y0 : Int32) : Option (Sto × Int32) :=
  if (x4 - (1 : Int32)) ≤ y0 then (
some (σ, (-1000000 : Int32)))
else (
some (σ, y0))

def fX10_carries (σ : Sto) (x1 : Int32) (x2 : Int32) (x3 : Int32) : Option (Sto × Int32) :=
  if (fX10_isThere σ) = (0 : Int32) then (
some (σ, (-1000002 : Int32)))
else (
if (fX10_in x1.toInt64 (1 : Int64) (4 : Int64)) = (0 : Int32) then (
some (σ, (-1000001 : Int32)))
else (
if (fX10_in x2.toInt64 (0 : Int64) (20 : Int64)) = (0 : Int32) then (
some (σ, (-1000001 : Int32)))
else (
if (-1 : Int32) ≤ x3 then (
un ((σ 4 1) + (1 : Int32)) fun x_4 =>
fX10_carries_L62 (fun σ_5 z_6 z_7 z_8 z_9 z_10 =>
if (0 : Int32) ≤ z_7 then (
if z_6 ≤ z_7 then (
fX10_carries_j149 σ_5 z_8 (z_8 - (1 : Int32)))
else (
bd (fX10_power z_8 ((z_6 - (1 : Int32)) - z_7)) fun q_11 =>
gd (nz q_11) (
gd (nz z_8) (
fX10_carries_j149 σ_5 z_8 (irm (z_10 / q_11) z_8)))))
else (
some (σ_5, z_9))) fu σ x1 x2 x3 x_4 (99 : Int32) (0 : Int32) (0 : Int32))
else (
some (σ, (-1000001 : Int32))))))

def fX10_dam_L54 (k_129 : Sto → Int32 → Int32 → Int32 → Option (Sto × Int32)) : Nat → Sto → Int32 → Int32 → Int32 → Int32 → Int32 → Int32 → Option (Sto × Int32)
  | 0, _, _, _, _, _, _, _ => none
  | n + 1, σ, x1, x2, x3, x4, x5, x6 => if (σ 4 0) ≤ x6 then (
k_129 σ x3 x4 x5)
else (
bd (fX10_laysAside σ (0 : Int32)) fun q_1 =>
gd (vin ((25 : Int32) + x6) 59) (
un (up q_1 6 (((25 : Int32) + x6).toNatClampNeg) x1) fun σ_3 =>
bd (fX10_goesBy σ_3 6 x2) fun q_4 =>
bd (fX10_stones q_4 6) fun q_5 =>
if x4 ≤ q_5 then (
un (fX10_less x4 q_5) fun x_7 =>
un (x6 + (1 : Int32)) fun x_8 =>
fX10_dam_L54 k_129 n q_4 x1 x2 x3 x_7 x5 x_8)
else (
un (fX10_less x4 q_5) fun x_10 =>
un (x6 + (1 : Int32)) fun x_11 =>
fX10_dam_L54 k_129 n q_4 x1 x2 x3 x_10 x6 x_11)))

def fX10_dam (σ : Sto) (x1 : Int32) (x2 : Int32) (x3 : Int32) : Option (Sto × Int32) :=
  if (fX10_isThere σ) = (0 : Int32) then (
some (σ, (-1000002 : Int32)))
else (
if (fX10_in x1.toInt64 (1 : Int64) (9 : Int64)) = (0 : Int32) then (
some (σ, (-1000001 : Int32)))
else (
if (fX10_in x2.toInt64 (1 : Int64) (40 : Int64)) = (0 : Int32) then (
some (σ, (-1000001 : Int32)))
else (
if (fX10_isTwo x3) = (0 : Int32) then (
some (σ, (-1000001 : Int32)))
else (
fX10_dam_L54 (fun σ_5 z_6 z_7 z_8 =>
if z_6 = (0 : Int32) then (
some (σ_5, z_8))
else (
some (σ_5, z_7))) fu σ x1 x2 x3 (99 : Int32) (0 : Int32) (0 : Int32)))))

def fX10_hold_L34 : Nat → Sto → Int32 → Int32 → Int32 → Int32 → Option (Sto × Int32)
  | 0, _, _, _, _, _ => none
  | n + 1, σ, x1, x2, x3, x4 => if (10 : Int32) ≤ x4 then (
some (σ, (-1000000 : Int32)))
else (
bd (fX10_laysAside σ (0 : Int32)) fun q_1 =>
gd (vin ((25 : Int32) + x2) 59) (
un (up q_1 6 (((25 : Int32) + x2).toNatClampNeg) x4) fun σ_3 =>
bd (fX10_goesBy σ_3 6 x3) fun q_4 =>
bd (fX10_lies q_4 6 x1) fun q_5 =>
if q_5 = (0 : Int32) then (
some (q_4, x4))
else (
un (x4 + (1 : Int32)) fun x_6 =>
fX10_hold_L34 n q_4 x1 x2 x3 x_6)))

def fX10_hold (σ : Sto) (x1 : Int32) (x2 : Int32) (x3 : Int32) : Option (Sto × Int32) :=
  if (fX10_isRoom σ x1) = (0 : Int32) then (
some (σ, (-1000001 : Int32)))
else (
if (fX10_isRoom σ x2) = (0 : Int32) then (
some (σ, (-1000001 : Int32)))
else (
if (fX10_in x3.toInt64 (1 : Int64) (40 : Int64)) = (0 : Int32) then (
some (σ, (-1000001 : Int32)))
else (
fX10_hold_L34 fu σ x1 x2 x3 (0 : Int32))))

def fX10_spare_L28 : Nat → Sto → Int32 → Int32 → Option (Sto × Int32)
  | 0, _, _, _ => none
  | n + 1, σ, x1, x2 => if x2 < (0 : Int32) then (
some (σ, (-1000000 : Int32)))
else (
bd (fX10_laysAside σ (0 : Int32)) fun q_1 =>
un (up q_1 6 2 x2) fun σ_2 =>
bd (fX10_goesBy σ_2 6 x1) fun q_3 =>
bd (fX10_those q_3 6 (2 : Int32)) fun q_4 =>
bd (fX10_those q_3 4 (2 : Int32)) fun q_5 =>
if q_4 = q_5 then (
some (q_3, x2))
else (
un (x2 + (-1 : Int32)) fun x_6 =>
fX10_spare_L28 n q_3 x1 x_6))

def fX10_spare (σ : Sto) (x1 : Int32) : Option (Sto × Int32) :=
  if (fX10_isThere σ) = (0 : Int32) then (
some (σ, (-1000002 : Int32)))
else (
if (fX10_in x1.toInt64 (1 : Int64) (40 : Int64)) = (0 : Int32) then (
some (σ, (-1000001 : Int32)))
else (
fX10_spare_L28 fu σ x1 (20 : Int32)))

def fX10_highOf_L4 (σ : Sto) : Nat → Int32 → Int32 → Int32 → Option Int32
  | 0, _, _, _ => none
  | n + 1, x1, x2, x3 => if (σ 4 1) ≤ x3 then (
some x2)
else (
if (fX10_has x1 x3) = (0 : Int32) then (
un (x2 + (0 : Int32)) fun x_2 =>
un (x3 + (1 : Int32)) fun x_3 =>
fX10_highOf_L4 σ n x1 x_2 x_3)
else (
gd (vin ((41 : Int32) + x3) 59) (
un (x2 + (σ 4 ((41 : Int32) + x3).toNatClampNeg)) fun x_5 =>
un (x3 + (1 : Int32)) fun x_6 =>
fX10_highOf_L4 σ n x1 x_5 x_6)))

def fX10_highOf (σ : Sto) (x1 : Int32) : Option Int32 :=
  fX10_highOf_L4 σ fu x1 (0 : Int32) (0 : Int32)

def fX10_sets_L58 (k_107 : Int32 → Int32 → Int32 → Int32 → Option Int32) (σ : Sto) : Nat → Int32 → Int32 → Int32 → Int32 → Int32 → Int32 → Int32 → Option Int32
  | 0, _, _, _, _, _, _, _ => none
  | n + 1, x1, x2, x3, x4, x5, x6, x7 => if (64 : Int32) ≤ x7 then (
k_107 x2 x4 x5 x6)
else (
if (x7 &&& (x3 ^^^ (-1 : Int32))) = (0 : Int32) then (
bd (fX10_highOf σ x7) fun q_2 =>
if q_2 = x1 then (
un (x4 + (1 : Int32)) fun x_4 =>
un (x5 &&& x7) fun x_5 =>
un (x6 ||| x7) fun x_6 =>
un (x7 + (1 : Int32)) fun x_7 =>
fX10_sets_L58 k_107 σ n x1 x2 x3 x_4 x_5 x_6 x_7)
else (
un (x7 + (1 : Int32)) fun x_3 =>
fX10_sets_L58 k_107 σ n x1 x2 x3 x4 x5 x6 x_3))
else (
un (x7 + (1 : Int32)) fun x_1 =>
fX10_sets_L58 k_107 σ n x1 x2 x3 x4 x5 x6 x_1))

def fX10_sets (σ : Sto) (x1 : Int32) (x2 : Int32) : Option Int32 :=
  if (fX10_isThere σ) = (0 : Int32) then (
some (-1000002 : Int32))
else (
if (fX10_in x1.toInt64 (0 : Int64) (54 : Int64)) = (0 : Int32) then (
some (-1000001 : Int32))
else (
if (fX10_in x2.toInt64 (0 : Int64) (2 : Int64)) = (0 : Int32) then (
some (-1000001 : Int32))
else (
bd (fX10_those σ 4 (0 : Int32)) fun q_4 =>
fX10_sets_L58 (fun z_5 z_6 z_7 z_8 =>
if z_5 = (0 : Int32) then (
some z_6)
else (
if z_5 = (2 : Int32) then (
some z_8)
else (
if z_6 = (0 : Int32) then (
some (0 : Int32))
else (
some z_7)))) σ fu x1 x2 q_4 (0 : Int32) q_4 (0 : Int32) (0 : Int32))))

def fX10_share_j104 (k_63 : Int32 → Int32 → Int32 → Int32 → Int32 → Int32 → Int32 → Option Int32) (σ : Sto) (x1 : Int32) (x2 : Int32) (x3 : Int32) (x4 : Int32) (x6 : Int32) (x7 : Int32) (y0 : Int32) (y1 : Int32) : Option Int32 :=
  un (y0 - y1) fun x_1 =>
if (fX10_has x3 x7) = (0 : Int32) then (
un (x6 + (0 : Int32)) fun x_3 =>
un (x7 + (1 : Int32)) fun x_4 =>
k_63 x1 x2 x3 x4 x_1 x_3 x_4)
else (
if x1 ≤ x7 then (
un (x6 + (0 : Int32)) fun x_5 =>
un (x7 + (1 : Int32)) fun x_6 =>
k_63 x1 x2 x3 x4 x_1 x_5 x_6)
else (
un (x6 + (1 : Int32)) fun x_7 =>
un (x7 + (1 : Int32)) fun x_8 =>
k_63 x1 x2 x3 x4 x_1 x_7 x_8))

def fX10_share_L63 (k_138 : Int32 → Int32 → Int32 → Int32 → Int32 → Option Int32) (σ : Sto) : Nat → Int32 → Int32 → Int32 → Int32 → Int32 → Int32 → Int32 → Option Int32
  | 0, _, _, _, _, _, _, _ => none
  | n + 1, x1, x2, x3, x4, x5, x6, x7 => if (σ 4 1) ≤ x7 then (
k_138 x1 x2 x4 x5 x6)
else (
if (fX10_has x3 x7) = (0 : Int32) then (
fX10_share_j104 (fX10_share_L63 k_138 σ n) σ x1 x2 x3 x4 x6 x7 x5 (0 : Int32))
else (
gd (vin ((41 : Int32) + x7) 59) (
gd (nz x4) (
fX10_share_j104 (fX10_share_L63 k_138 σ n) σ x1 x2 x3 x4 x6 x7 x5 ((x2 * (σ 4 ((41 : Int32) + x7).toNatClampNeg)) / x4)))))

def fX10_share (σ : Sto) (x1 : Int32) (x2 : Int32) : Option Int32 :=
  if (fX10_isThing σ x1) = (0 : Int32) then (
some (-1000001 : Int32))
else (
if (fX10_in x2.toInt64 (0 : Int64) (999 : Int64)) = (0 : Int32) then (
some (-1000001 : Int32))
else (
gd (vin ((53 : Int32) + x1) 59) (
if (σ 4 ((53 : Int32) + x1).toNatClampNeg) = (1 : Int32) then (
bd (fX10_those σ 4 (1 : Int32)) fun q_4 =>
bd (fX10_highOf σ q_4) fun q_5 =>
fX10_share_L63 (fun z_6 z_7 z_8 z_9 z_10 =>
gd (vin ((41 : Int32) + z_6) 59) (
gd (nz z_8) (
if z_9 ≤ z_10 then (
some (((z_7 * (σ 4 ((41 : Int32) + z_6).toNatClampNeg)) / z_8) + (0 : Int32)))
else (
some (((z_7 * (σ 4 ((41 : Int32) + z_6).toNatClampNeg)) / z_8) + (1 : Int32)))))) σ fu x1 x2 q_4 q_5 x2 (0 : Int32) (0 : Int32))
else (
some (0 : Int32)))))

def fX10_chooses_j72 (σ : Sto) (x2 : Int32) (y1 : Int32) (y2 : Int32) : Option (Sto × Int32) :=
  gd (vin y1 295) (
un (up σ 12 (y1.toNatClampNeg) y2) fun σ_2 =>
if (2 : Int32) ≤ x2 then (
some (σ_2, (0 : Int32)))
else (
some (σ_2, (1 : Int32))))

def fX10_chooses (σ : Sto) (x1 : Int32) (x2 : Int32) : Option (Sto × Int32) :=
  un ((59 : Int32) * x1) fun x_1 =>
un (x_1 + (59 : Int32)) fun x_2 =>
bd (fX10_copies σ 12 x_1 12 x_2) fun q_3 =>
if (irm x1 (2 : Int32)) = (1 : Int32) then (
if x2 = (0 : Int32) then (
gd (vin (x_2 + (2 : Int32)) 295) (
fX10_chooses_j72 q_3 x2 (x_2 + (2 : Int32)) (q_3 12 (x_2 + (2 : Int32)).toNatClampNeg)))
else (
gd (vin (x_2 + (2 : Int32)) 295) (
fX10_chooses_j72 q_3 x2 (x_2 + (2 : Int32)) (fX10_less (20 : Int32) ((q_3 12 (x_2 + (2 : Int32)).toNatClampNeg) + (3 : Int32))))))
else (
if x2 = (0 : Int32) then (
some (q_3, (1 : Int32)))
else (
if (q_3 4 1) < x2 then (
some (q_3, (0 : Int32)))
else (
gd (vin (((x_2 + (53 : Int32)) + x2) - (1 : Int32)) 295) (
if (q_3 12 (((x_2 + (53 : Int32)) + x2) - (1 : Int32)).toNatClampNeg) = (0 : Int32) then (
bd (fX10_copies q_3 12 x_2 6 (0 : Int32)) fun q_5 =>
bd (fX10_goes q_5 6 (x2 - (1 : Int32)) (1 : Int32)) fun q_6 =>
bd (fX10_copies q_6 6 (0 : Int32) 12 x_2) fun q_7 =>
some (q_7, (1 : Int32)))
else (
some (q_3, (0 : Int32)))))))

def fX10_endsIn (σ : Sto) (x1 : Int32) (x2 : Int32) : Option (Sto × Int32) :=
  bd (fX10_copies σ 12 ((59 : Int32) * x1) 6 (0 : Int32)) fun q_1 =>
bd (fX10_goesBy q_1 6 x2) fun q_2 =>
bd (fX10_stones q_2 6) fun q_3 =>
some (q_2, q_3)

def fX10_byTurns_L55 (k_95 : Sto → Int32 → Int32 → Int32 → Option (Sto × Int32)) : Nat → Sto → Int32 → Int32 → Int32 → Int32 → Option (Sto × Int32)
  | 0, _, _, _, _, _ => none
  | n + 1, σ, x1, x2, x3, x4 => if (5 : Int32) ≤ x4 then (
k_95 σ x1 x2 x3)
else (
gd (vin x4 5) (
un (up σ 13 (x4.toNatClampNeg) (0 : Int32)) fun σ_2 =>
if (irm x4 (2 : Int32)) = (0 : Int32) then (
un (up σ_2 14 (x4.toNatClampNeg) (99 : Int32)) fun σ_5 =>
un (x4 + (1 : Int32)) fun x_6 =>
fX10_byTurns_L55 k_95 n σ_5 x1 x2 x3 x_6)
else (
un (up σ_2 14 (x4.toNatClampNeg) (-1 : Int32)) fun σ_3 =>
un (x4 + (1 : Int32)) fun x_4 =>
fX10_byTurns_L55 k_95 n σ_3 x1 x2 x3 x_4)))

def fX10_byTurns_j180 (k_95 : Sto → Int32 → Int32 → Int32 → Option (Sto × Int32)) (σ : Sto) (x1 : Int32) (x2 : Int32) (x3 : Int32) (x5 : Int32) (y1 : Int32) (y2 : Int32) : Option (Sto × Int32) :=
  gd (vin y1 5) (
un (up σ 14 (y1.toNatClampNeg) y2) fun σ_2 =>
un (x3 + (-1 : Int32)) fun x_3 =>
if (irm x_3 (2 : Int32)) = (0 : Int32) then (
gd (vin x_3 5) (
un (up σ_2 14 (x_3.toNatClampNeg) (fX10_less (σ_2 14 x_3.toNatClampNeg) x5)) fun σ_9 =>
k_95 σ_9 x1 x2 x_3))
else (
gd (vin x_3 5) (
if x5 ≤ (σ_2 14 x_3.toNatClampNeg) then (
un (up σ_2 14 (x_3.toNatClampNeg) (σ_2 14 x_3.toNatClampNeg)) fun σ_5 =>
k_95 σ_5 x1 x2 x_3)
else (
un (up σ_2 14 (x_3.toNatClampNeg) x5) fun σ_6 =>
k_95 σ_6 x1 x2 x_3))))

def fX10_byTurns_j147 (k_95 : Sto → Int32 → Int32 → Int32 → Option (Sto × Int32)) (σ : Sto) (x1 : Int32) (x2 : Int32) (x3 : Int32) (y0 : Int32) : Option (Sto × Int32) :=
  if x3 = (0 : Int32) then (
some (σ, y0))
else (
gd (vin x3 5) (
un (up σ 13 (x3.toNatClampNeg) (0 : Int32)) fun σ_2 =>
if (irm x3 (2 : Int32)) = (0 : Int32) then (
fX10_byTurns_j180 k_95 σ_2 x1 x2 x3 y0 x3 (99 : Int32))
else (
fX10_byTurns_j180 k_95 σ_2 x1 x2 x3 y0 x3 (-1 : Int32))))

def fX10_byTurns_j127 (k_95 : Sto → Int32 → Int32 → Int32 → Option (Sto × Int32)) (σ : Sto) (x1 : Int32) (x2 : Int32) (x3 : Int32) (x4 : Int32) : Option (Sto × Int32) :=
  if x4 = (0 : Int32) then (
gd (vin x3 5) (
fX10_byTurns_j147 k_95 σ x1 x2 x3 (σ 14 x3.toNatClampNeg)))
else (
bd (fX10_endsIn σ x3 x2) fun q_6 =>
fX10_byTurns_j147 k_95 q_6.1 x1 x2 x3 q_6.2)

def fX10_byTurns_j109 (k_95 : Sto → Int32 → Int32 → Int32 → Option (Sto × Int32)) (σ : Sto) (x1 : Int32) (x2 : Int32) (x3 : Int32) (y0 : Int32) : Option (Sto × Int32) :=
  if y0 = (0 : Int32) then (
gd (vin x3 5) (
if (σ 13 x3.toNatClampNeg) ≤ (6 : Int32) then (
un (σ 13 x3.toNatClampNeg) fun x_6 =>
un (up σ 13 (x3.toNatClampNeg) ((σ 13 x3.toNatClampNeg) + (1 : Int32))) fun σ_7 =>
bd (fX10_chooses σ_7 x3 x_6) fun q_8 =>
if q_8.2 = (0 : Int32) then (
un (x3 + (0 : Int32)) fun x_9 =>
k_95 q_8.1 x1 x2 x_9)
else (
un (x3 + (1 : Int32)) fun x_10 =>
k_95 q_8.1 x1 x2 x_10))
else (
fX10_byTurns_j127 k_95 σ x1 x2 x3 y0)))
else (
fX10_byTurns_j127 k_95 σ x1 x2 x3 y0)

def fX10_byTurns_L95 : Nat → Sto → Int32 → Int32 → Int32 → Option (Sto × Int32)
  | 0, _, _, _, _ => none
  | n + 1, σ, x1, x2, x3 => if x3 < (0 : Int32) then (
some (σ, (-1000000 : Int32)))
else (
if x3 = x1 then (
fX10_byTurns_j109 (fX10_byTurns_L95 n) σ x1 x2 x3 (1 : Int32))
else (
fX10_byTurns_j109 (fX10_byTurns_L95 n) σ x1 x2 x3 (0 : Int32)))

def fX10_byTurns (σ : Sto) (x1 : Int32) (x2 : Int32) : Option (Sto × Int32) :=
  if (fX10_isThere σ) = (0 : Int32) then (
some (σ, (-1000002 : Int32)))
else (
if (fX10_in x1.toInt64 (0 : Int64) (4 : Int64)) = (0 : Int32) then (
some (σ, (-1000001 : Int32)))
else (
if (fX10_in x2.toInt64 (1 : Int64) (20 : Int64)) = (0 : Int32) then (
some (σ, (-1000001 : Int32)))
else (
bd (fX10_copies σ 4 (0 : Int32) 12 (0 : Int32)) fun q_4 =>
fX10_byTurns_L55 (fX10_byTurns_L95 fu) fu q_4 x1 x2 (0 : Int32) (0 : Int32))))

def fX10_fits_j64 (k_6 : Sto → Int32 → Int32 → Int32 → Int32 → Int32 → Int32 → Int32 → Option (Sto × Int32)) (σ : Sto) (x1 : Int32) (x2 : Int32) (x3 : Int32) (x4 : Int32) (x5 : Int32) (x7 : Int32) (y0 : Int32) (y1 : Int32) : Option (Sto × Int32) :=
  if y0 = y1 then (
un (x7 + (1 : Int32)) fun x_2 =>
k_6 σ x1 x2 x3 x4 x5 (1 : Int32) x_2)
else (
un (x7 + (1 : Int32)) fun x_1 =>
k_6 σ x1 x2 x3 x4 x5 (0 : Int32) x_1)

def fX10_fits_L6 : Nat → Sto → Int32 → Int32 → Int32 → Int32 → Int32 → Int32 → Int32 → Option (Sto × Int32)
  | 0, _, _, _, _, _, _, _, _ => none
  | n + 1, σ, x1, x2, x3, x4, x5, x6, x7 => if x5 ≤ x7 then (
gd (isB x6) (
some (σ, x6)))
else (
bd (fX10_passes σ 6) fun q_2 =>
if x6 = (0 : Int32) then (
un (x7 + (1 : Int32)) fun x_3 =>
fX10_fits_L6 n q_2 x1 x2 x3 x4 x5 (0 : Int32) x_3)
else (
gd (vin ((((40 : Int32) * x3) + x4) + x7) 320) (
if (0 : Int32) ≤ x1 then (
bd (fX10_whereOf q_2 6 x1) fun q_5 =>
fX10_fits_j64 (fX10_fits_L6 n) q_2 x1 x2 x3 x4 x5 x7 (q_2 3 ((((40 : Int32) * x3) + x4) + x7).toNatClampNeg) q_5)
else (
gd (vin ((15 : Int32) + x2) 59) (
fX10_fits_j64 (fX10_fits_L6 n) q_2 x1 x2 x3 x4 x5 x7 (q_2 3 ((((40 : Int32) * x3) + x4) + x7).toNatClampNeg) (q_2 6 ((15 : Int32) + x2).toNatClampNeg))))))

def fX10_fits (σ : Sto) (x1 : Int32) (x2 : Int32) (x3 : Int32) (x4 : Int32) (x5 : Int32) : Option (Sto × Int32) :=
  fX10_fits_L6 fu σ x1 x2 x3 x4 x5 (1 : Int32) (0 : Int32)

def fX10_lacks (σ : Sto) (x1 : Int32) (x2 : Int32) (x3 : Int32) : Option (Sto × Int32) :=
  gd (vin x1 8) (
if (0 : Int32) ≤ (σ 2 x1.toNatClampNeg) then (
if x2 < (0 : Int32) then (
un (fX10_found σ (2 : Int32)) fun q_2 =>
some (q_2.1, q_2.2))
else (
if (lg_cmp (x2.toInt64 + x3.toInt64) ((σ 2 x1.toNatClampNeg).toInt64)) ≤ (0 : Int32) then (
some (σ, (0 : Int32)))
else (
un (fX10_found σ (2 : Int32)) fun q_3 =>
some (q_3.1, q_3.2))))
else (
un (fX10_found σ (1 : Int32)) fun q_4 =>
some (q_4.1, q_4.2)))

def fX10_who_L145 : Nat → Sto → Int32 → Int32 → Int32 → Int32 → Int32 → Int32 → Int32 → Int32 → Option (Sto × Int32)
  | 0, _, _, _, _, _, _, _, _, _ => none
  | n + 1, σ, x1, x3, x4, x5, x7, x8, x9, x10 => if x8 < x10 then (
un (fX10_well σ x9) fun q_1 =>
some (q_1.1, q_1.2))
else (
bd (fX10_laysAside σ (0 : Int32)) fun q_2 =>
gd (vin x7 59) (
un (up q_2 6 (x7.toNatClampNeg) x10) fun σ_4 =>
bd (fX10_fits σ_4 x1 (0 : Int32) x3 x4 x5) fun q_5 =>
if q_5.2 = (0 : Int32) then (
un (x9 ||| (0 : Int32)) fun x_6 =>
un (x10 + (1 : Int32)) fun x_7 =>
fX10_who_L145 n q_5.1 x1 x3 x4 x5 x7 x8 x_6 x_7)
else (
un (x9 ||| ((1 : Int32) <<< (x10 &&& (31 : Int32)))) fun x_8 =>
un (x10 + (1 : Int32)) fun x_9 =>
fX10_who_L145 n q_5.1 x1 x3 x4 x5 x7 x8 x_8 x_9)))

def fX10_who_j143 (σ : Sto) (x1 : Int32) (x3 : Int32) (x4 : Int32) (x5 : Int32) (x7 : Int32) (x8 : Int32) (x9 : Int32) (y0 : Int32) : Option (Sto × Int32) :=
  fX10_who_L145 fu σ x1 x3 x4 x5 x7 x8 x9 y0

def fX10_who_j128 (σ : Sto) (x1 : Int32) (x2 : Int32) (x3 : Int32) (x4 : Int32) (x5 : Int32) (x7 : Int32) (y0 : Int32) : Option (Sto × Int32) :=
  if (2 : Int32) ≤ x2 then (
fX10_who_j143 σ x1 x3 x4 x5 x7 y0 (0 : Int32) (0 : Int32))
else (
fX10_who_j143 σ x1 x3 x4 x5 x7 y0 (0 : Int32) (1 : Int32))

def fX10_who_j98 (σ : Sto) (x1 : Int32) (x2 : Int32) (x3 : Int32) (x4 : Int32) (x5 : Int32) (y0 : Int32) : Option (Sto × Int32) :=
  un (y0 + x1) fun x_1 =>
if x2 = (0 : Int32) then (
fX10_who_j128 σ x1 x2 x3 x4 x5 x_1 (5 : Int32))
else (
if x2 = (1 : Int32) then (
fX10_who_j128 σ x1 x2 x3 x4 x5 x_1 (9 : Int32))
else (
fX10_who_j128 σ x1 x2 x3 x4 x5 x_1 ((σ 4 0) - (1 : Int32))))

def fX10_who (σ : Sto) (x1 : Int32) (x2 : Int32) (x3 : Int32) (x4 : Int32) (x5 : Int32) : Option (Sto × Int32) :=
  if (fX10_isThing σ x1) = (0 : Int32) then (
some (σ, (-1000001 : Int32)))
else (
if (fX10_in x2.toInt64 (0 : Int64) (2 : Int64)) = (0 : Int32) then (
some (σ, (-1000001 : Int32)))
else (
if (fX10_isRow x3) = (0 : Int32) then (
some (σ, (-1000001 : Int32)))
else (
if (fX10_in x5.toInt64 (1 : Int64) (12 : Int64)) = (0 : Int32) then (
some (σ, (-1000001 : Int32)))
else (
gd (vin ((53 : Int32) + x1) 59) (
if (σ 4 ((53 : Int32) + x1).toNatClampNeg) = (0 : Int32) then (
bd (fX10_lacks σ x3 x4 x5) fun q_6 =>
if (0 : Int32) ≤ q_6.2 then (
if x2 = (0 : Int32) then (
fX10_who_j98 q_6.1 x1 x2 x3 x4 x5 (35 : Int32))
else (
if x2 = (1 : Int32) then (
fX10_who_j98 q_6.1 x1 x2 x3 x4 x5 (41 : Int32))
else (
fX10_who_j98 q_6.1 x1 x2 x3 x4 x5 (47 : Int32))))
else (
some (q_6.1, q_6.2)))
else (
some (σ, (-1000002 : Int32))))))))

def fX10_feeds_j104 (k_68 : Sto → Int32 → Int32 → Int32 → Int32 → Int32 → Int32 → Int32 → Option (Sto × Int32)) (σ : Sto) (x1 : Int32) (x2 : Int32) (x3 : Int32) (x4 : Int32) (x5 : Int32) (x7 : Int32) (x8 : Int32) (y1 : Int32) : Option (Sto × Int32) :=
  gd (vin y1 59) (
un (up σ 6 (y1.toNatClampNeg) x8) fun σ_2 =>
bd (fX10_fits σ_2 (-1 : Int32) x1 x3 x4 x5) fun q_3 =>
if q_3.2 = (0 : Int32) then (
un (x7 ||| (0 : Int32)) fun x_4 =>
un (x8 + (1 : Int32)) fun x_5 =>
k_68 q_3.1 x1 x2 x3 x4 x5 x_4 x_5)
else (
un (x7 ||| ((1 : Int32) <<< (x8 &&& (31 : Int32)))) fun x_6 =>
un (x8 + (1 : Int32)) fun x_7 =>
k_68 q_3.1 x1 x2 x3 x4 x5 x_6 x_7))

def fX10_feeds_j81 (k_140 : Sto → Int32 → Int32 → Option (Sto × Int32)) (k_68 : Sto → Int32 → Int32 → Int32 → Int32 → Int32 → Int32 → Int32 → Option (Sto × Int32)) (σ : Sto) (x1 : Int32) (x2 : Int32) (x3 : Int32) (x4 : Int32) (x5 : Int32) (x7 : Int32) (x8 : Int32) (y0 : Int32) (y1 : Int32) : Option (Sto × Int32) :=
  if y1 < y0 then (
k_140 σ x2 x7)
else (
bd (fX10_laysAside σ (0 : Int32)) fun q_1 =>
if x2 = (0 : Int32) then (
fX10_feeds_j104 k_68 q_1 x1 x2 x3 x4 x5 x7 x8 ((5 : Int32) + x1))
else (
fX10_feeds_j104 k_68 q_1 x1 x2 x3 x4 x5 x7 x8 (2 : Int32)))

def fX10_feeds_L68 (k_140 : Sto → Int32 → Int32 → Option (Sto × Int32)) : Nat → Sto → Int32 → Int32 → Int32 → Int32 → Int32 → Int32 → Int32 → Option (Sto × Int32)
  | 0, _, _, _, _, _, _, _, _ => none
  | n + 1, σ, x1, x2, x3, x4, x5, x7, x8 => if x2 = (0 : Int32) then (
fX10_feeds_j81 k_140 (fX10_feeds_L68 k_140 n) σ x1 x2 x3 x4 x5 x7 x8 x8 (9 : Int32))
else (
fX10_feeds_j81 k_140 (fX10_feeds_L68 k_140 n) σ x1 x2 x3 x4 x5 x7 x8 x8 (20 : Int32))

def fX10_feeds_L143 (k_164 : Sto → Int32 → Int32 → Int32 → Option (Sto × Int32)) : Nat → Sto → Int32 → Int32 → Int32 → Option (Sto × Int32)
  | 0, _, _, _, _ => none
  | n + 1, σ, x2, x7, x8 => if x7 = (0 : Int32) then (
k_164 σ x2 x7 x8)
else (
if (fX10_has x7 x8) = (0 : Int32) then (
un (x8 + (1 : Int32)) fun x_2 =>
fX10_feeds_L143 k_164 n σ x2 x7 x_2)
else (
k_164 σ x2 x7 x8))

def fX10_feeds_j164 (σ : Sto) (x2 : Int32) (x7 : Int32) (x8 : Int32) : Option (Sto × Int32) :=
  if x2 = (0 : Int32) then (
un (fX10_well σ x7) fun q_5 =>
some (q_5.1, q_5.2))
else (
if x2 = (1 : Int32) then (
bd (fX10_bits x7) fun q_3 =>
un (fX10_well σ q_3) fun q_4 =>
some (q_4.1, q_4.2))
else (
if x7 = (0 : Int32) then (
un (fX10_well σ (-1000000 : Int32)) fun q_2 =>
some (q_2.1, q_2.2))
else (
un (fX10_well σ x8) fun q_1 =>
some (q_1.1, q_1.2))))

def fX10_feeds (σ : Sto) (x1 : Int32) (x2 : Int32) (x3 : Int32) (x4 : Int32) (x5 : Int32) : Option (Sto × Int32) :=
  if (fX10_isRoom σ x1) = (0 : Int32) then (
some (σ, (-1000001 : Int32)))
else (
if (fX10_in x2.toInt64 (0 : Int64) (2 : Int64)) = (0 : Int32) then (
some (σ, (-1000001 : Int32)))
else (
if (fX10_isRow x3) = (0 : Int32) then (
some (σ, (-1000001 : Int32)))
else (
if (fX10_in x5.toInt64 (1 : Int64) (12 : Int64)) = (0 : Int32) then (
some (σ, (-1000001 : Int32)))
else (
bd (fX10_lacks σ x3 x4 x5) fun q_5 =>
if (0 : Int32) ≤ q_5.2 then (
fX10_feeds_L68 (fun σ_6 z_7 z_8 =>
fX10_feeds_L143 fX10_feeds_j164 fu σ_6 z_7 z_8 (0 : Int32)) fu q_5.1 x1 x2 x3 x4 x5 (0 : Int32) (0 : Int32))
else (
some (q_5.1, q_5.2))))))

def fX10_divisor_L6 : Nat → Int64 → Int64 → Option Int64
  | 0, _, _ => none
  | n + 1, x4, x6 => if (lg_cmp x6 (0 : Int64)) = (0 : Int32) then (
some x4)
else (
gd (nzL x6) (
un (lrm x4 x6) fun x_2 =>
fX10_divisor_L6 n x6 x_2))

def fX10_divisor (x0 : Int64) (x2 : Int64) : Option Int64 :=
  fX10_divisor_L6 fu x0 x2

def fX10_gives_j87 (k_53 : Sto → Int32 → Int32 → Int32 → Int32 → Int32 → Int64 → Int32 → Option (Sto × Int64)) (σ : Sto) (x1 : Int32) (x2 : Int32) (x3 : Int32) (x4 : Int32) (x6 : Int64) (x8 : Int32) (y0 : Int32) (y1 : Int32) : Option (Sto × Int64) :=
  un (y0 ||| y1) fun x_1 =>
gd (vin ((25 : Int32) + x8) 59) (
if (σ 4 ((25 : Int32) + x8).toNatClampNeg) = (0 : Int32) then (
un (x6 * (1 : Int64)) fun x_3 =>
un (x8 + (1 : Int32)) fun x_4 =>
k_53 σ x1 x2 x3 x4 x_1 x_3 x_4)
else (
un (x6 * (10 : Int64)) fun x_5 =>
un (x8 + (1 : Int32)) fun x_6 =>
k_53 σ x1 x2 x3 x4 x_1 x_5 x_6))

def fX10_gives_L53 (k_121 : Sto → Int32 → Int32 → Int32 → Int32 → Int32 → Int64 → Option (Sto × Int64)) : Nat → Sto → Int32 → Int32 → Int32 → Int32 → Int32 → Int64 → Int32 → Option (Sto × Int64)
  | 0, _, _, _, _, _, _, _, _ => none
  | n + 1, σ, x1, x2, x3, x4, x5, x6, x8 => if (σ 4 0) ≤ x8 then (
k_121 σ x1 x2 x3 x4 x5 x6)
else (
gd (vin ((25 : Int32) + x8) 59) (
if (σ 4 ((25 : Int32) + x8).toNatClampNeg) = (0 : Int32) then (
fX10_gives_j87 (fX10_gives_L53 k_121 n) σ x1 x2 x3 x4 x6 x8 x5 (0 : Int32))
else (
fX10_gives_j87 (fX10_gives_L53 k_121 n) σ x1 x2 x3 x4 x6 x8 x5 ((1 : Int32) <<< (x8 &&& (31 : Int32))))))

def fX10_gives_j212 (k_164 : Sto → Int32 → Int32 → Int32 → Int32 → Int32 → Int64 → Int64 → Int32 → Int64 → Int32 → Option (Sto × Int64)) (σ : Sto) (x1 : Int32) (x2 : Int32) (x3 : Int32) (x4 : Int32) (x5 : Int32) (x6 : Int64) (x8 : Int64) (x10 : Int32) (x13 : Int32) (y0 : Int64) (y1 : Int64) : Option (Sto × Int64) :=
  un (y0 * y1) fun x_1 =>
if (fX10_has x10 x13) = (0 : Int32) then (
gd (vin ((25 : Int32) + x13) 59) (
un (up σ 6 (((25 : Int32) + x13).toNatClampNeg) (σ 6 ((25 : Int32) + x13).toNatClampNeg)) fun σ_4 =>
un (x13 + (1 : Int32)) fun x_5 =>
k_164 σ_4 x1 x2 x3 x4 x5 x6 x8 x10 x_1 x_5))
else (
gd (vin ((25 : Int32) + x13) 59) (
un (up σ 6 (((25 : Int32) + x13).toNatClampNeg) (0 : Int32)) fun σ_7 =>
un (x13 + (1 : Int32)) fun x_8 =>
k_164 σ_7 x1 x2 x3 x4 x5 x6 x8 x10 x_1 x_8))

def fX10_gives_L164 (k_255 : Sto → Int32 → Int32 → Int32 → Int32 → Int32 → Int64 → Int64 → Int32 → Int64 → Option (Sto × Int64)) : Nat → Sto → Int32 → Int32 → Int32 → Int32 → Int32 → Int64 → Int64 → Int32 → Int64 → Int32 → Option (Sto × Int64)
  | 0, _, _, _, _, _, _, _, _, _, _, _ => none
  | n + 1, σ, x1, x2, x3, x4, x5, x6, x8, x10, x11, x13 => if (σ 4 0) ≤ x13 then (
k_255 σ x1 x2 x3 x4 x5 x6 x8 x10 x11)
else (
if (fX10_has x5 x13) = (0 : Int32) then (
fX10_gives_j212 (fX10_gives_L164 k_255 n) σ x1 x2 x3 x4 x5 x6 x8 x10 x13 x11 (1 : Int64))
else (
if (fX10_has x10 x13) = (0 : Int32) then (
fX10_gives_j212 (fX10_gives_L164 k_255 n) σ x1 x2 x3 x4 x5 x6 x8 x10 x13 x11 ((10 : Int64) - x3.toInt64))
else (
fX10_gives_j212 (fX10_gives_L164 k_255 n) σ x1 x2 x3 x4 x5 x6 x8 x10 x13 x11 x3.toInt64)))

def fX10_gives_L127 (k_300 : Sto → Int32 → Int64 → Int64 → Option (Sto × Int64)) : Nat → Sto → Int32 → Int32 → Int32 → Int32 → Int32 → Int64 → Int64 → Int32 → Option (Sto × Int64)
  | 0, _, _, _, _, _, _, _, _, _ => none
  | n + 1, σ, x1, x2, x3, x4, x5, x6, x8, x10 => if ((1 : Int32) <<< ((σ 4 0) &&& (31 : Int32))) ≤ x10 then (
k_300 σ x4 x6 x8)
else (
if (x10 &&& (x5 ^^^ (-1 : Int32))) = (0 : Int32) then (
bd (fX10_laysAside σ (0 : Int32)) fun q_1 =>
fX10_gives_L164 (fun σ_2 z_3 z_4 z_5 z_6 z_7 z_8 z_9 z_10 z_11 =>
if (lg_cmp z_11 (0 : Int64)) ≤ (0 : Int32) then (
un (z_10 + (1 : Int32)) fun x_12 =>
fX10_gives_L127 k_300 n σ_2 z_3 z_4 z_5 z_6 z_7 z_8 z_9 x_12)
else (
bd (fX10_goesBy σ_2 6 z_4) fun q_13 =>
gd (vin ((53 : Int32) + z_3) 59) (
if (q_13 6 ((53 : Int32) + z_3).toNatClampNeg) = (2 : Int32) then (
un (z_9 + (0 : Int64)) fun x_15 =>
un (z_10 + (1 : Int32)) fun x_16 =>
fX10_gives_L127 k_300 n q_13 z_3 z_4 z_5 z_6 z_7 z_8 x_15 x_16)
else (
un (z_9 + z_11) fun x_17 =>
un (z_10 + (1 : Int32)) fun x_18 =>
fX10_gives_L127 k_300 n q_13 z_3 z_4 z_5 z_6 z_7 z_8 x_17 x_18)))) fu q_1 x1 x2 x3 x4 x5 x6 x8 x10 (1 : Int64) (0 : Int32))
else (
un (x10 + (1 : Int32)) fun x_19 =>
fX10_gives_L127 k_300 n σ x1 x2 x3 x4 x5 x6 x8 x_19))

def fX10_gives (σ : Sto) (x1 : Int32) (x2 : Int32) (x3 : Int32) (x4 : Int32) : Option (Sto × Int64) :=
  if (fX10_isThing σ x1) = (0 : Int32) then (
some (σ, (-1000001 : Int64)))
else (
if (fX10_in x2.toInt64 (0 : Int64) (40 : Int64)) = (0 : Int32) then (
some (σ, (-1000001 : Int64)))
else (
if (fX10_in x3.toInt64 (0 : Int64) (10 : Int64)) = (0 : Int32) then (
some (σ, (-1000001 : Int64)))
else (
if (fX10_isTwo x4) = (0 : Int32) then (
some (σ, (-1000001 : Int64)))
else (
fX10_gives_L53 (fun σ_5 z_6 z_7 z_8 z_9 z_10 z_11 =>
fX10_gives_L127 (fun σ_12 z_13 z_14 z_15 =>
if z_13 = (0 : Int32) then (
bd (fX10_divisor z_15 z_14) fun q_18 =>
gd (nzL q_18) (
some (σ_12, (z_15 / q_18))))
else (
bd (fX10_divisor z_15 z_14) fun q_16 =>
gd (nzL q_16) (
some (σ_12, (z_14 / q_16))))) fu σ_5 z_6 z_7 z_8 z_9 z_10 z_11 (0 : Int64) (0 : Int32)) fu σ x1 x2 x3 x4 (0 : Int32) (1 : Int64) (0 : Int32)))))

def fX10_drawn_j179 (k_70 : Sto → Int32 → Int32 → Int64 → Int32 → Int32 → Option (Sto × Int32)) (σ : Sto) (x1 : Int32) (x4 : Int32) (x5 : Int64) (x7 : Int32) (x8 : Int32) : Option (Sto × Int32) :=
  bd (fX10_those σ 6 x4) fun q_1 =>
bd (fX10_passes σ 6) fun q_2 =>
bd (fX10_those q_2 6 x4) fun q_3 =>
bd (fX10_bits (q_3 &&& (q_1 ^^^ (-1 : Int32)))) fun q_4 =>
un (x7 + q_4) fun x_5 =>
un (x8 + (1 : Int32)) fun x_6 =>
k_70 q_2 x1 x4 x5 x_5 x_6

def fX10_drawn_j120 (k_70 : Sto → Int32 → Int32 → Int64 → Int32 → Int32 → Option (Sto × Int32)) (σ : Sto) (x1 : Int32) (x4 : Int32) (x5 : Int64) (x7 : Int32) (x8 : Int32) (y1 : Int32) (y2 : Int32) : Option (Sto × Int32) :=
  gd (vin y1 59) (
un (up σ 6 (y1.toNatClampNeg) y2) fun σ_2 =>
gd (nzL ((σ_2 4 1).toInt64)) (
un ((lrm x5 ((σ_2 4 1).toInt64)).toInt32) fun x_4 =>
gd (vin ((53 : Int32) + x_4) 59) (
if (σ_2 6 ((53 : Int32) + x_4).toNatClampNeg) = (0 : Int32) then (
fX10_drawn_j179 k_70 σ_2 x1 x4 x5 x7 x8)
else (
un (up σ_2 6 (((53 : Int32) + x_4).toNatClampNeg) (0 : Int32)) fun σ_12 =>
gd (nzL ((σ_12 4 0).toInt64)) (
gd (vin ((47 : Int32) + x_4) 59) (
un (up σ_12 6 (((47 : Int32) + x_4).toNatClampNeg) ((lrm x5 ((σ_12 4 0).toInt64)).toInt32)) fun σ_15 =>
fX10_drawn_j179 k_70 σ_15 x1 x4 x5 x7 x8))))))

def fX10_drawn_L70 : Nat → Sto → Int32 → Int32 → Int64 → Int32 → Int32 → Option (Sto × Int32)
  | 0, _, _, _, _, _, _ => none
  | n + 1, σ, x1, x4, x5, x7, x8 => if x1 ≤ x8 then (
some (σ, x7))
else (
un (lrm (x5 * (16807 : Int64)) (2147483647 : Int64)) fun x_1 =>
if (lg_cmp (lrm x_1 (3 : Int64)) (0 : Int64)) = (0 : Int32) then (
fX10_drawn_j120 (fX10_drawn_L70 n) σ x1 x4 x_1 x7 x8 (2 : Int32) ((lrm x_1 (10 : Int64)).toInt32))
else (
fX10_drawn_j120 (fX10_drawn_L70 n) σ x1 x4 x_1 x7 x8 (2 : Int32) (σ 6 2)))

def fX10_drawn_j58 (σ : Sto) (x1 : Int32) (x2 : Int32) (y0 : Int32) : Option (Sto × Int32) :=
  fX10_drawn_L70 fu σ x1 y0 x2.toInt64 (0 : Int32) (0 : Int32)

def fX10_drawn (σ : Sto) (x1 : Int32) (x2 : Int32) (x3 : Int32) : Option (Sto × Int32) :=
  if (fX10_isThere σ) = (0 : Int32) then (
some (σ, (-1000002 : Int32)))
else (
if (fX10_in x1.toInt64 (0 : Int64) (60 : Int64)) = (0 : Int32) then (
some (σ, (-1000001 : Int32)))
else (
if (fX10_in x2.toInt64 (1 : Int64) (999999 : Int64)) = (0 : Int32) then (
some (σ, (-1000001 : Int32)))
else (
if (fX10_isTwo x3) = (0 : Int32) then (
some (σ, (-1000001 : Int32)))
else (
bd (fX10_laysAside σ (0 : Int32)) fun q_5 =>
if x3 = (0 : Int32) then (
fX10_drawn_j58 q_5 x1 x2 (2 : Int32))
else (
fX10_drawn_j58 q_5 x1 x2 (1 : Int32))))))

def fX10_image (σ : Sto) (x1 : Int32) : Option (Sto × Int32) :=
  if (fX10_isTwo x1) = (0 : Int32) then (
some (σ, (-1000001 : Int32)))
else (
if (fX10_isThere σ) = (0 : Int32) then (
some (σ, (-1000002 : Int32)))
else (
bd (fX10_copies σ 4 (0 : Int32) 8 ((59 : Int32) * x1)) fun q_3 =>
gd (vin x1 2) (
un (up q_3 9 (x1.toNatClampNeg) (vp_nar .boolean (1 : Int32))) fun σ_5 =>
some (σ_5, (1 : Int32)))))

def fX10_restore (σ : Sto) (x1 : Int32) : Option (Sto × Int32) :=
  if (fX10_isTwo x1) = (0 : Int32) then (
some (σ, (-1000001 : Int32)))
else (
gd (vin x1 2) (
if (σ 9 x1.toNatClampNeg) = (0 : Int32) then (
some (σ, (-1000002 : Int32)))
else (
bd (fX10_copies σ 8 ((59 : Int32) * x1) 4 (0 : Int32)) fun q_3 =>
un (up q_3 0 8 (0 : Int32)) fun σ_4 =>
some (σ_4, (1 : Int32)))))

def fX10_kind (σ : Sto) (x1 : Int32) : Option Int32 :=
  if (fX10_isThing σ x1) = (0 : Int32) then (
some (-1000001 : Int32))
else (
gd (vin ((35 : Int32) + x1) 59) (
some (σ 4 ((35 : Int32) + x1).toNatClampNeg)))

def fX10_isOf_j24 (x0 : Int32) (x1 : Int32) : Int32 :=
  if x1 = (4 : Int32) then (
if x0 = (5 : Int32) then (
(1 : Int32))
else (
(0 : Int32)))
else (
(0 : Int32))

def fX10_isOf (x0 : Int32) (x1 : Int32) : Int32 :=
  if x1 = (0 : Int32) then (
(1 : Int32))
else (
if x0 = x1 then (
(1 : Int32))
else (
if x1 = (1 : Int32) then (
if x0 = (2 : Int32) then (
(1 : Int32))
else (
if x0 = (3 : Int32) then (
(1 : Int32))
else (
fX10_isOf_j24 x0 x1)))
else (
fX10_isOf_j24 x0 x1)))

def fX10_as (σ : Sto) (x1 : Int32) (x2 : Int32) : Option (Sto × Int32) :=
  if (fX10_isThing σ x1) = (0 : Int32) then (
some (σ, (-1000001 : Int32)))
else (
if (fX10_in x2.toInt64 (0 : Int64) (5 : Int64)) = (0 : Int32) then (
some (σ, (-1000001 : Int32)))
else (
gd (vin ((35 : Int32) + x1) 59) (
if (fX10_isOf (σ 4 ((35 : Int32) + x1).toNatClampNeg) x2) = (0 : Int32) then (
un (fX10_found σ (3 : Int32)) fun q_5 =>
some (q_5.1, q_5.2))
else (
un (fX10_well σ x1) fun q_6 =>
some (q_6.1, q_6.2)))))

def fX10_leave_L2 (k_21 : Sto → Int64 → Int64 → Option Sto) : Nat → Sto → Int64 → Int64 → Option Sto
  | 0, _, _, _ => none
  | n + 1, σ, x1, x3 => if (0 : Int32) < (lg_cmp (x3 * (100 : Int64)) x1) then (
k_21 σ x1 x3)
else (
un (x3 * (100 : Int64)) fun x_1 =>
fX10_leave_L2 k_21 n σ x1 x_1)

def fX10_leave_L24 : Nat → Sto → Int64 → Int64 → Option Sto
  | 0, _, _, _ => none
  | n + 1, σ, x3, x5 => if (lg_cmp x3 (0 : Int64)) ≤ (0 : Int32) then (
some σ)
else (
gd (nzL x3) (
gd (vin (σ 0 15) 16) (
un (up σ 11 ((σ 0 15).toNatClampNeg) ((x5 / x3).toInt32)) fun σ_3 =>
un (lrm x5 x3) fun x_4 =>
un (up σ_3 0 15 ((σ_3 0 15) + (1 : Int32))) fun σ_5 =>
un (x3 / (100 : Int64)) fun x_6 =>
fX10_leave_L24 n σ_5 x_6 x_4)))

def fX10_leave (σ : Sto) (x1 : Int64) : Option Sto :=
  fX10_leave_L2 (fun σ_1 z_2 z_3 =>
fX10_leave_L24 fu σ_1 z_3 z_2) fu σ x1 (1 : Int64)

def fX10_mark_j48 (σ : Sto) (x2 : Int32) (x3 : Int32) (y1 : Int64) : Option (Sto × Int32) :=
  bd (fX10_leave σ y1) fun q_1 =>
if x2 = (2 : Int32) then (
some (q_1, ((2 : Int32) * x3)))
else (
if x2 = (3 : Int32) then (
some (q_1, (x3 - (1000 : Int32))))
else (
some (q_1, x3)))

def fX10_mark (σ : Sto) (x1 : Int32) : Option (Sto × Int32) :=
  gd (vin ((35 : Int32) + x1) 59) (
un (σ 4 ((35 : Int32) + x1).toNatClampNeg) fun x_2 =>
gd (vin ((47 : Int32) + x1) 59) (
un (x1 + (σ 4 ((47 : Int32) + x1).toNatClampNeg)) fun x_4 =>
if x_2 = (2 : Int32) then (
fX10_mark_j48 σ x_2 x_4 (242120 : Int64))
else (
if x_2 = (3 : Int32) then (
fX10_mark_j48 σ x_2 x_4 (222120 : Int64))
else (
fX10_mark_j48 σ x_2 x_4 (2120 : Int64)))))

def fX10_sizeOf_j46 (σ : Sto) (x2 : Int32) (x3 : Int32) (y1 : Int64) : Option (Sto × Int32) :=
  bd (fX10_leave σ y1) fun q_1 =>
if x3 = (0 : Int32) then (
some (q_1, x2))
else (
some (q_1, ((2 : Int32) * x2)))

def fX10_sizeOf_j31 (σ : Sto) (x2 : Int32) (y0 : Int32) : Option (Sto × Int32) :=
  if y0 = (0 : Int32) then (
fX10_sizeOf_j46 σ x2 y0 (1310 : Int64))
else (
fX10_sizeOf_j46 σ x2 y0 (141310 : Int64))

def fX10_sizeOf (σ : Sto) (x1 : Int32) : Option (Sto × Int32) :=
  gd (vin ((41 : Int32) + x1) 59) (
un ((σ 4 ((41 : Int32) + x1).toNatClampNeg) - (100 : Int32)) fun x_2 =>
gd (vin ((35 : Int32) + x1) 59) (
if (σ 4 ((35 : Int32) + x1).toNatClampNeg) = (5 : Int32) then (
fX10_sizeOf_j31 σ x_2 (1 : Int32))
else (
fX10_sizeOf_j31 σ x_2 (0 : Int32))))

def fX10_ask_j64 (σ : Sto) (x1 : Int32) (x3 : Int32) (y1 : Int64) : Option (Sto × Int32) :=
  bd (fX10_leave σ y1) fun q_1 =>
gd (vin ((41 : Int32) + x1) 59) (
bd (fX10_mark q_1 x1) fun q_3 =>
un ((q_1 4 ((41 : Int32) + x1).toNatClampNeg) + q_3.2) fun x_4 =>
if x3 = (2 : Int32) then (
some (q_3.1, (-x_4)))
else (
some (q_3.1, x_4)))

def fX10_ask (σ : Sto) (x1 : Int32) (x2 : Int32) : Option (Sto × Int32) :=
  if (fX10_isThing σ x1) = (0 : Int32) then (
some (σ, (-1000001 : Int32)))
else (
if (fX10_isTwo x2) = (0 : Int32) then (
some (σ, (-1000001 : Int32)))
else (
un (up σ 0 15 (0 : Int32)) fun σ_3 =>
gd (vin ((35 : Int32) + x1) 59) (
un (σ_3 4 ((35 : Int32) + x1).toNatClampNeg) fun x_5 =>
if (4 : Int32) ≤ x_5 then (
if x2 = (0 : Int32) then (
bd (fX10_sizeOf σ_3 x1) fun q_8 =>
some (q_8.1, q_8.2))
else (
bd (fX10_leave σ_3 (2320 : Int64)) fun q_6 =>
bd (fX10_sizeOf q_6 x1) fun q_7 =>
some (q_7.1, (x1 - q_7.2))))
else (
if x2 = (1 : Int32) then (
bd (fX10_mark σ_3 x1) fun q_9 =>
some (q_9.1, q_9.2))
else (
if x_5 = (2 : Int32) then (
fX10_ask_j64 σ_3 x1 x_5 (121110 : Int64))
else (
fX10_ask_j64 σ_3 x1 x_5 (1110 : Int64)))))))

def fX10_trace (σ : Sto) (x1 : Int32) : Option Int32 :=
  if (fX10_in x1.toInt64 (0 : Int64) (((σ 0 15) - (1 : Int32)).toInt64)) = (0 : Int32) then (
some (-1000000 : Int32))
else (
gd (vin x1 16) (
some (σ 11 x1.toNatClampNeg)))

def fX10_count_L7 (k_38 : Int32 → Int32 → Int32 → Option Int32) (σ : Sto) : Nat → Int32 → Int32 → Int32 → Int32 → Option Int32
  | 0, _, _, _, _ => none
  | n + 1, x1, x2, x3, x4 => if (8 : Int32) ≤ x4 then (
k_38 x1 x2 x3)
else (
gd (vin x4 8) (
if (0 : Int32) ≤ (σ 2 x4.toNatClampNeg) then (
un (x2 + (1 : Int32)) fun x_2 =>
un (x4 + (1 : Int32)) fun x_3 =>
fX10_count_L7 k_38 σ n x1 x_2 x3 x_3)
else (
un (x2 + (0 : Int32)) fun x_4 =>
un (x4 + (1 : Int32)) fun x_5 =>
fX10_count_L7 k_38 σ n x1 x_4 x3 x_5)))

def fX10_count_L41 (k_67 : Int32 → Int32 → Int32 → Option Int32) (σ : Sto) : Nat → Int32 → Int32 → Int32 → Int32 → Option Int32
  | 0, _, _, _, _ => none
  | n + 1, x1, x2, x3, x4 => if (10 : Int32) ≤ x4 then (
k_67 x1 x2 x3)
else (
gd (vin ((15 : Int32) + x4) 59) (
un (x3 + (σ 4 ((15 : Int32) + x4).toNatClampNeg)) fun x_2 =>
un (x4 + (1 : Int32)) fun x_3 =>
fX10_count_L41 k_67 σ n x1 x2 x_2 x_3))

def fX10_count (σ : Sto) (x1 : Int32) : Option Int32 :=
  fX10_count_L7 (fun z_1 z_2 z_3 =>
fX10_count_L41 (fun z_4 z_5 z_6 =>
if z_4 = (0 : Int32) then (
some z_5)
else (if z_4 = (1 : Int32) then (
some (σ 4 1))
else (if z_4 = (2 : Int32) then (
some (σ 4 0))
else (if z_4 = (3 : Int32) then (
some (σ 4 4))
else (if z_4 = (4 : Int32) then (
some z_6)
else (if z_4 = (5 : Int32) then (
bd (fX10_stones σ 4) fun q_13 =>
some q_13)
else (if z_4 = (6 : Int32) then (
bd (fX10_those σ 4 (1 : Int32)) fun q_15 =>
bd (fX10_bits q_15) fun q_16 =>
some q_16)
else (if z_4 = (7 : Int32) then (
some (σ 0 8))
else (if z_4 = (8 : Int32) then (
some (σ 0 12))
else (
some (-1000001 : Int32))))))))))) σ fu z_1 z_2 z_3 (0 : Int32)) σ fu x1 (0 : Int32) (0 : Int32) (0 : Int32)

def fX10_status (σ : Sto) : Int32 :=
  (σ 0 3)
