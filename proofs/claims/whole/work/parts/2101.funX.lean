def fJ6_bitCount_0f7a4 (x0 : Int32) : Int32 :=
  un (x0 - ((ush x0 (1 : Int32)) &&& (1431655765 : Int32))) fun x_1 =>
un ((x_1 &&& (858993459 : Int32)) + ((ush x_1 (2 : Int32)) &&& (858993459 : Int32))) fun x_2 =>
un ((x_2 + (ush x_2 (4 : Int32))) &&& (252645135 : Int32)) fun x_3 =>
un (x_3 + (ush x_3 (8 : Int32))) fun x_4 =>
un (x_4 + (ush x_4 (16 : Int32))) fun x_5 =>
(x_5 &&& (63 : Int32))

def fJ6_numberOfTrailingZeros_0f7a4_j62 (x0 : Int32) (x1 : Int32) : Int32 :=
  if x0 ≤ (4 : Int32) then (
(x1 + (ush x0 (1 : Int32))))
else (
un (x1 + (2 : Int32)) fun x_1 =>
un (ush x0 (2 : Int32)) fun x_2 =>
(x_1 + (ush x_2 (1 : Int32))))

def fJ6_numberOfTrailingZeros_0f7a4_j49 (x0 : Int32) (x1 : Int32) : Int32 :=
  if x0 ≤ (16 : Int32) then (
fJ6_numberOfTrailingZeros_0f7a4_j62 x0 x1)
else (
un (x1 + (4 : Int32)) fun x_1 =>
un (ush x0 (4 : Int32)) fun x_2 =>
fJ6_numberOfTrailingZeros_0f7a4_j62 x_2 x_1)

def fJ6_numberOfTrailingZeros_0f7a4_j34 (x0 : Int32) (x1 : Int32) : Int32 :=
  if x0 ≤ (256 : Int32) then (
fJ6_numberOfTrailingZeros_0f7a4_j49 x0 x1)
else (
un (x1 + (8 : Int32)) fun x_1 =>
un (ush x0 (8 : Int32)) fun x_2 =>
fJ6_numberOfTrailingZeros_0f7a4_j49 x_2 x_1)

def fJ6_numberOfTrailingZeros_0f7a4 (x0 : Int32) : Int32 :=
  un ((x0 ^^^ (-1 : Int32)) &&& (x0 - (1 : Int32))) fun x_1 =>
if (0 : Int32) < x_1 then (
if x_1 ≤ (65536 : Int32) then (
fJ6_numberOfTrailingZeros_0f7a4_j34 x_1 (1 : Int32))
else (
un ((1 : Int32) + (16 : Int32)) fun x_2 =>
un (ush x_1 (16 : Int32)) fun x_3 =>
fJ6_numberOfTrailingZeros_0f7a4_j34 x_3 x_2))
else (
(x_1 &&& (32 : Int32)))

def fX0_bodyFor_L7 (σ : Sto) : Nat → Int32 → Int32 → Int32 → Int32 → Option Int32
  | 0, _, _, _, _ => none
  | n + 1, x1, x2, x3, x4 => if (6 : Int32) ≤ x4 then (
some x3)
else (
if x2 < (0 : Int32) then (
some x3)
else (
if x3 = (0 : Int32) then (
if x1 = (0 : Int32) then (
gd (vin x2 6) (
un (tbl_1.getD x2.toNatClampNeg 0) fun x_6 =>
un (tbl_0.getD x2.toNatClampNeg 0) fun x_7 =>
un (x4 + (1 : Int32)) fun x_8 =>
fX0_bodyFor_L7 σ n x1 x_7 x_6 x_8))
else (
gd (vin x2 6) (
un (tbl_2.getD x2.toNatClampNeg 0) fun x_2 =>
un (tbl_0.getD x2.toNatClampNeg 0) fun x_3 =>
un (x4 + (1 : Int32)) fun x_4 =>
fX0_bodyFor_L7 σ n x1 x_3 x_2 x_4)))
else (
some x3)))

def fX0_bodyFor (σ : Sto) (x0 : Int32) (x1 : Int32) : Option Int32 :=
  fX0_bodyFor_L7 σ fu x1 x0 (0 : Int32) (0 : Int32)

def fX0_begin (σ : Sto) (x1 : Int32) : Option Sto :=
  if (16 : Int32) ≤ (σ 26 0) then (
some σ)
else (
gd (vin (σ 26 0) 16) (
un (up σ 27 ((σ 26 0).toNatClampNeg) x1) fun σ_2 =>
un (up σ_2 26 0 ((σ_2 26 0) + (1 : Int32))) fun σ_3 =>
some σ_3))

def fX0_anew (rc : Sto → Nat → Int32 → Int32 → Int32 → Option (Sto × Int32)) (σ : Sto) (v1 : Nat) (x2 : Int32) (x3 : Int32) (x4 : Int32) : Option (Sto × Int32) :=
  gd (vin x2 6) (
bd (fX0_bodyFor σ (σ (v1 + 4) x2.toNatClampNeg) x3) fun q_2 =>
bd (rc σ v1 x2 q_2 (x4 + (1 : Int32))) fun q_3 =>
some (q_3.1, q_3.2))

def fX0_give (rc : Sto → Nat → Int32 → Int32 → Int32 → Option (Sto × Int32)) (σ : Sto) (v1 : Nat) (x2 : Int32) (x3 : Int32) (x4 : Int32) : Option (Sto × Int32) :=
  if x4 ≤ (16 : Int32) then (
bd (fX0_begin σ x3) fun q_1 =>
if x3 = (10 : Int32) then (
gd (vin x2 6) (
some (q_1, (q_1 (v1 + 5) x2.toNatClampNeg))))
else (if x3 = (11 : Int32) then (
bd (rc q_1 v1 x2 (10 : Int32) (x4 + (1 : Int32))) fun q_5 =>
bd (fX0_anew rc q_5.1 v1 x2 (1 : Int32) x4) fun q_6 =>
some (q_6.1, (q_5.2 + q_6.2)))
else (if x3 = (12 : Int32) then (
bd (rc q_1 v1 x2 (11 : Int32) (x4 + (1 : Int32))) fun q_8 =>
some (q_8.1, ((0 : Int32) - q_8.2)))
else (if x3 = (13 : Int32) then (
bd (rc q_1 v1 x2 (10 : Int32) (x4 + (1 : Int32))) fun q_10 =>
some (q_10.1, (q_10.2 - (100 : Int32))))
else (if x3 = (14 : Int32) then (
bd (rc q_1 v1 x2 (13 : Int32) (x4 + (1 : Int32))) fun q_12 =>
some (q_12.1, ((2 : Int32) * q_12.2)))
else (if x3 = (15 : Int32) then (
some (q_1, (0 : Int32)))
else (if x3 = (16 : Int32) then (
some (q_1, (0 : Int32)))
else (if x3 = (17 : Int32) then (
some (q_1, (0 : Int32)))
else (if x3 = (18 : Int32) then (
some (q_1, (0 : Int32)))
else (if x3 = (19 : Int32) then (
some (q_1, (0 : Int32)))
else (if x3 = (20 : Int32) then (
some (q_1, x2))
else (if x3 = (21 : Int32) then (
bd (rc q_1 v1 x2 (20 : Int32) (x4 + (1 : Int32))) fun q_20 =>
gd (vin x2 6) (
some (q_20.1, (q_20.2 + (q_20.1 (v1 + 7) x2.toNatClampNeg)))))
else (if x3 = (22 : Int32) then (
bd (rc q_1 v1 x2 (21 : Int32) (x4 + (1 : Int32))) fun q_23 =>
some (q_23.1, (q_23.2 - (1000 : Int32))))
else (if x3 = (23 : Int32) then (
bd (rc q_1 v1 x2 (20 : Int32) (x4 + (1 : Int32))) fun q_25 =>
bd (fX0_anew rc q_25.1 v1 x2 (0 : Int32) x4) fun q_26 =>
some (q_26.1, (q_25.2 - q_26.2)))
else (if x3 = (24 : Int32) then (
bd (rc q_1 v1 x2 (21 : Int32) (x4 + (1 : Int32))) fun q_28 =>
some (q_28.1, ((2 : Int32) * q_28.2)))
else (
some (q_1, (0 : Int32))))))))))))))))))
else (
some (σ, (0 : Int32)))

def fX0_giveD : Nat → Sto → Nat → Int32 → Int32 → Int32 → Option (Sto × Int32)
  | 0, _, _, _, _, _ => none
  | n + 1, σ, v1, x2, x3, x4 => fX0_give (fX0_giveD n) σ v1 x2 x3 x4
def fX0_giveR (σ : Sto) (v1 : Nat) (x2 : Int32) (x3 : Int32) (x4 : Int32) : Option (Sto × Int32) := fX0_giveD 18 σ v1 x2 x3 x4

def fX0_answer (σ : Sto) (v1 : Nat) (x2 : Int32) (x3 : Int32) : Option (Sto × Int32) :=
  un (up σ 26 0 (0 : Int32)) fun σ_1 =>
gd (vin x2 6) (
bd (fX0_bodyFor σ_1 (σ_1 (v1 + 4) x2.toNatClampNeg) x3) fun q_3 =>
bd (fX0_giveR σ_1 v1 x2 q_3 (0 : Int32)) fun q_4 =>
some (q_4.1, q_4.2))

def fX8_flow_j75 (k_21 : Sto → Int32 → Int32 → Option Sto) (v0 : Nat) (a1 : Nat) (σ : Sto) (x2 : Int32) (x4 : Int32) (x5 : Int32) (y0 : Int32) : Option Sto :=
  gd (vin x4 10) (
gd (vin (x2 + x4) (aLX a1)) (
un ((((σ (v0 + 1) x4.toNatClampNeg) + (σ a1 (x2 + x4).toNatClampNeg)) - (σ (v0 + 3) x4.toNatClampNeg)) - y0) fun x_3 =>
if x_3 < (2 : Int32) then (
un (x4 + (1 : Int32)) fun x_4 =>
k_21 σ x2 x_4)
else (
un (if (σ a1 (x2 + x4).toNatClampNeg) < (x_3 / (2 : Int32)) then (σ a1 (x2 + x4).toNatClampNeg) else (x_3 / (2 : Int32))) fun x_5 =>
un (up σ a1 ((x2 + x4).toNatClampNeg) ((σ a1 (x2 + x4).toNatClampNeg) - x_5)) fun σ_6 =>
if x5 = (0 : Int32) then (
gd (vin ((x2 + x4) + (1 : Int32)) (aLX a1)) (
un (up σ_6 a1 (((x2 + x4) + (1 : Int32)).toNatClampNeg) ((σ_6 a1 ((x2 + x4) + (1 : Int32)).toNatClampNeg) + x_5)) fun σ_9 =>
un (x4 + (1 : Int32)) fun x_10 =>
k_21 σ_9 x2 x_10))
else (
un (x4 + (1 : Int32)) fun x_7 =>
k_21 σ_6 x2 x_7))))

def fX8_flow_j46 (k_21 : Sto → Int32 → Int32 → Option Sto) (v0 : Nat) (a1 : Nat) (σ : Sto) (x2 : Int32) (x4 : Int32) (y0 : Int32) : Option Sto :=
  if y0 = (0 : Int32) then (
gd (vin (x4 + (1 : Int32)) 10) (
gd (vin ((x2 + x4) + (1 : Int32)) (aLX a1)) (
fX8_flow_j75 k_21 v0 a1 σ x2 x4 y0 ((σ (v0 + 1) (x4 + (1 : Int32)).toNatClampNeg) + (σ a1 ((x2 + x4) + (1 : Int32)).toNatClampNeg)))))
else (
fX8_flow_j75 k_21 v0 a1 σ x2 x4 y0 (0 : Int32))

def fX8_flow_L21 (v0 : Nat) (a1 : Nat) : Nat → Sto → Int32 → Int32 → Option Sto
  | 0, _, _, _ => none
  | n + 1, σ, x2, x4 => if (σ v0 0) ≤ x4 then (
some σ)
else (
if (x4 + (1 : Int32)) = (σ v0 0) then (
fX8_flow_j46 (fX8_flow_L21 v0 a1 n) v0 a1 σ x2 x4 (1 : Int32))
else (
fX8_flow_j46 (fX8_flow_L21 v0 a1 n) v0 a1 σ x2 x4 (0 : Int32)))

def fX8_flow_j18 (v0 : Nat) (a1 : Nat) (σ : Sto) (x2 : Int32) : Option Sto :=
  fX8_flow_L21 v0 a1 fu σ x2 (0 : Int32)

def fX8_flow (σ : Sto) (v0 : Nat) (a1 : Nat) (x2 : Int32) (x3 : Int32) : Option Sto :=
  if (σ v0 3) ≤ x3 then (
fX8_flow_j18 v0 a1 σ x2)
else (
gd (vin x2 (aLX a1)) (
un (up σ a1 (x2.toNatClampNeg) ((σ a1 x2.toNatClampNeg) + (σ v0 2))) fun σ_2 =>
fX8_flow_j18 v0 a1 σ_2 x2))

def fX2_tell_L17 (f0 : Nat) (v1 : Nat) : Nat → Sto → Int32 → Int32 → Option Sto
  | 0, _, _, _ => none
  | n + 1, σ, x2, x3 => if x2 ≤ x3 then (
some σ)
else (
if (σ f0 0) ≤ x3 then (
some σ)
else (
un (x3 * (10 : Int32)) fun x_1 =>
gd (cpok x_1 (x_1 + (10 : Int32)) (10 : Int32) (aLX (f0 + 1)) (aLX (f0 + 1))) (
un (cpS σ (f0 + 1) (x_1.toNatClampNeg) (f0 + 1) ((x_1 + (10 : Int32)).toNatClampNeg) 10) fun σ_3 =>
bd (fX8_flow σ_3 v1 (f0 + 1) (x_1 + (10 : Int32)) ((σ_3 v1 4) + x3)) fun q_4 =>
un (x3 + (1 : Int32)) fun x_5 =>
fX2_tell_L17 f0 v1 n q_4 x2 x_5)))

def fX2_tell (σ : Sto) (f0 : Nat) (v1 : Nat) (x2 : Int32) : Option Sto :=
  gd (cpok (0 : Int32) (0 : Int32) (10 : Int32) 10 (aLX (f0 + 1))) (
un (cpS σ (v1 + 2) 0 (f0 + 1) 0 10) fun σ_2 =>
fX2_tell_L17 f0 v1 fu σ_2 x2 (0 : Int32))

def fX8_goneOn (σ : Sto) (v0 : Nat) (x1 : Int32) (x2 : Int32) : Int32 :=
  if (σ v0 0) ≤ (x1 + x2) then (
(20 : Int32))
else (
(x1 + x2))

def fX8_carried (σ : Sto) (v0 : Nat) (x1 : Int32) : Int32 :=
  if (20 : Int32) ≤ x1 then (
x1)
else (
(fX8_goneOn σ v0 x1 (1 : Int32)))

def fX8_pace_j199 (a2 : Nat) (σ : Sto) (x8 : Int32) : Option Int32 :=
  if x8 = (0 : Int32) then (
some (0 : Int32))
else (
some (1 : Int32))

def fX8_pace_j125 (a2 : Nat) (σ : Sto) (y0 : Int32) : Option Int32 :=
  fX8_pace_j199 a2 σ y0

def fX8_pace_j124 (a2 : Nat) (σ : Sto) : Option Int32 :=
  fX8_pace_j125 a2 σ (0 : Int32)

def fX8_pace_j120 (a2 : Nat) (σ : Sto) : Option Int32 :=
  fX8_pace_j125 a2 σ (1 : Int32)

def fX8_pace_j150 (a2 : Nat) (σ : Sto) (y0 : Int32) : Option Int32 :=
  fX8_pace_j199 a2 σ y0

def fX8_pace_j145 (a2 : Nat) (σ : Sto) : Option Int32 :=
  fX8_pace_j150 a2 σ (1 : Int32)

def fX8_pace_j177 (a2 : Nat) (σ : Sto) (y0 : Int32) : Option Int32 :=
  fX8_pace_j199 a2 σ y0

def fX8_pace_j172 (a2 : Nat) (σ : Sto) : Option Int32 :=
  fX8_pace_j177 a2 σ (1 : Int32)

def fX8_pace_j197 (a2 : Nat) (σ : Sto) (y0 : Int32) : Option Int32 :=
  fX8_pace_j199 a2 σ y0

def fX8_pace_j192 (a2 : Nat) (σ : Sto) : Option Int32 :=
  fX8_pace_j197 a2 σ (1 : Int32)

def fX8_pace_j57 (a2 : Nat) (σ : Sto) (x0 : Int32) (x4 : Int32) (x5 : Int32) (x6 : Int32) (y0 : Int32) : Option Int32 :=
  if x0 = (2 : Int32) then (
if x5 = (0 : Int32) then (
some (0 : Int32))
else (
some (2 : Int32)))
else (if x0 = (3 : Int32) then (
if (irm x4 (2 : Int32)) = (0 : Int32) then (
if x5 = (0 : Int32) then (
if x6 = (0 : Int32) then (
fX8_pace_j124 a2 σ)
else (
fX8_pace_j120 a2 σ))
else (
fX8_pace_j120 a2 σ))
else (
fX8_pace_j124 a2 σ))
else (if x0 = (4 : Int32) then (
if x5 = (0 : Int32) then (
if x6 = (0 : Int32) then (
if y0 = (0 : Int32) then (
fX8_pace_j150 a2 σ (0 : Int32))
else (
fX8_pace_j145 a2 σ))
else (
fX8_pace_j145 a2 σ))
else (
fX8_pace_j145 a2 σ))
else (if x0 = (5 : Int32) then (
if x5 = (0 : Int32) then (
if x6 = (0 : Int32) then (
if y0 = (0 : Int32) then (
fX8_pace_j177 a2 σ (0 : Int32))
else (
fX8_pace_j172 a2 σ))
else (
fX8_pace_j172 a2 σ))
else (
some (2 : Int32)))
else (
if x5 = (0 : Int32) then (
if x6 = (0 : Int32) then (
fX8_pace_j197 a2 σ (0 : Int32))
else (
fX8_pace_j192 a2 σ))
else (
fX8_pace_j192 a2 σ)))))

def fX8_pace_j56 (a2 : Nat) (σ : Sto) (x0 : Int32) (x4 : Int32) (x5 : Int32) (x6 : Int32) : Option Int32 :=
  fX8_pace_j57 a2 σ x0 x4 x5 x6 (0 : Int32)

def fX8_pace_j35 (a2 : Nat) (σ : Sto) (x0 : Int32) (x1 : Int32) (x3 : Int32) (x4 : Int32) (x5 : Int32) (y0 : Int32) : Option Int32 :=
  if x1 < (2 : Int32) then (
fX8_pace_j56 a2 σ x0 x4 x5 y0)
else (
gd (vin ((x3 + x1) - (2 : Int32)) (aLX a2)) (
if (σ a2 ((x3 + x1) - (2 : Int32)).toNatClampNeg) ≤ (0 : Int32) then (
fX8_pace_j56 a2 σ x0 x4 x5 y0)
else (
fX8_pace_j57 a2 σ x0 x4 x5 y0 (1 : Int32))))

def fX8_pace_j34 (a2 : Nat) (σ : Sto) (x0 : Int32) (x1 : Int32) (x3 : Int32) (x4 : Int32) (x5 : Int32) : Option Int32 :=
  fX8_pace_j35 a2 σ x0 x1 x3 x4 x5 (0 : Int32)

def fX8_pace_j13 (a2 : Nat) (σ : Sto) (x0 : Int32) (x1 : Int32) (x3 : Int32) (x4 : Int32) (y0 : Int32) : Option Int32 :=
  if x1 < (1 : Int32) then (
fX8_pace_j34 a2 σ x0 x1 x3 x4 y0)
else (
gd (vin ((x3 + x1) - (1 : Int32)) (aLX a2)) (
if (σ a2 ((x3 + x1) - (1 : Int32)).toNatClampNeg) ≤ (0 : Int32) then (
fX8_pace_j34 a2 σ x0 x1 x3 x4 y0)
else (
fX8_pace_j35 a2 σ x0 x1 x3 x4 y0 (1 : Int32))))

def fX8_pace (σ : Sto) (x0 : Int32) (x1 : Int32) (a2 : Nat) (x3 : Int32) (x4 : Int32) : Option Int32 :=
  gd (vin (x3 + x1) (aLX a2)) (
if (σ a2 (x3 + x1).toNatClampNeg) ≤ (0 : Int32) then (
fX8_pace_j13 a2 σ x0 x1 x3 x4 (0 : Int32))
else (
fX8_pace_j13 a2 σ x0 x1 x3 x4 (1 : Int32)))

def fX8_placeAfter (σ : Sto) (v0 : Nat) (x1 : Int32) (x2 : Int32) (x3 : Int32) (a4 : Nat) (x5 : Int32) (x6 : Int32) : Option Int32 :=
  if x1 < (20 : Int32) then (
bd (fX8_pace σ x2 x1 a4 x5 x6) fun q_1 =>
un (fX8_goneOn σ v0 x1 q_1) fun x_3 =>
if x_3 = (20 : Int32) then (
some x_3)
else (
gd (vin (x5 + x_3) (aLX a4)) (
if x3 ≤ (σ a4 (x5 + x_3).toNatClampNeg) then (
some ((30 : Int32) + x_3))
else (
some x_3))))
else (
some x1)

def fX2_placeAfter (σ : Sto) (f0 : Nat) (v1 : Nat) (x2 : Int32) (x3 : Int32) (x4 : Int32) : Option Int32 :=
  gd (vin x2 6) (
bd (fX8_placeAfter σ v1 x3 (σ (v1 + 4) x2.toNatClampNeg) (σ (v1 + 5) x2.toNatClampNeg) (f0 + 1) ((x4 + (1 : Int32)) * (10 : Int32)) ((σ v1 4) + x4)) fun q_2 =>
some q_2)

def fX1_placeBehind_j45 (k_11 : Int32 → Int32 → Int32 → Int32 → Int32 → Option Int32) (v1 : Nat) (σ : Sto) (x2 : Int32) (x3 : Int32) (x4 : Int32) (x5 : Int32) (x6 : Int32) : Option Int32 :=
  bd (fX2_placeAfter σ 15 v1 x2 x5 x6) fun q_1 =>
un (x6 + (1 : Int32)) fun x_2 =>
k_11 x2 x3 x4 q_1 x_2

def fX1_placeBehind_L11 (v1 : Nat) (σ : Sto) : Nat → Int32 → Int32 → Int32 → Int32 → Int32 → Option Int32
  | 0, _, _, _, _, _ => none
  | n + 1, x2, x3, x4, x5, x6 => if x4 ≤ x6 then (
some x5)
else (
if (σ 14 7) ≤ x6 then (
fX1_placeBehind_j45 (fX1_placeBehind_L11 v1 σ n) v1 σ x2 x3 x4 x5 x6)
else (
if ((x3 >>> (x6 &&& (31 : Int32))) &&& (1 : Int32)) = (1 : Int32) then (
un (fX8_carried σ v1 x5) fun x_12 =>
fX1_placeBehind_j45 (fX1_placeBehind_L11 v1 σ n) v1 σ x2 x3 x4 x_12 x6)
else (
fX1_placeBehind_j45 (fX1_placeBehind_L11 v1 σ n) v1 σ x2 x3 x4 x5 x6)))

def fX1_placeBehind (σ : Sto) (v1 : Nat) (x2 : Int32) (x3 : Int32) (x4 : Int32) : Option Int32 :=
  gd (vin x2 6) (
un (σ (v1 + 6) x2.toNatClampNeg) fun x_2 =>
fX1_placeBehind_L11 v1 σ fu x2 x3 x4 x_2 (0 : Int32))

def fX1_followAll_L13 (k_61 : Sto → Int32 → Int32 → Option Sto) (v1 : Nat) : Nat → Sto → Int32 → Int32 → Int32 → Option Sto
  | 0, _, _, _, _ => none
  | n + 1, σ, x2, x3, x4 => if ((1 : Int32) <<< ((σ 14 7) &&& (31 : Int32))) ≤ x4 then (
k_61 σ x2 x3)
else (
bd (fX1_placeBehind σ v1 x3 x4 x2) fun q_1 =>
if q_1 < (30 : Int32) then (
gd (vin ((x3 * (16 : Int32)) + x4) 96) (
un (up σ 17 (((x3 * (16 : Int32)) + x4).toNatClampNeg) (vp_nar .boolean (0 : Int32))) fun σ_3 =>
un (x4 + (1 : Int32)) fun x_4 =>
fX1_followAll_L13 k_61 v1 n σ_3 x2 x3 x_4))
else (
gd (vin ((x3 * (16 : Int32)) + x4) 96) (
un (up σ 17 (((x3 * (16 : Int32)) + x4).toNatClampNeg) (vp_nar .boolean (1 : Int32))) fun σ_6 =>
un (x4 + (1 : Int32)) fun x_7 =>
fX1_followAll_L13 k_61 v1 n σ_6 x2 x3 x_7)))

def fX1_followAll_L2 (v1 : Nat) : Nat → Sto → Int32 → Int32 → Option Sto
  | 0, _, _, _ => none
  | n + 1, σ, x2, x3 => if (σ 14 6) ≤ x3 then (
some σ)
else (
fX1_followAll_L13 (fun σ_1 z_2 z_3 =>
un (z_3 + (1 : Int32)) fun x_4 =>
fX1_followAll_L2 v1 n σ_1 z_2 x_4) v1 fu σ x2 x3 (0 : Int32))

def fX1_followAll (σ : Sto) (v1 : Nat) (x2 : Int32) : Option Sto :=
  fX1_followAll_L2 v1 fu σ x2 (0 : Int32)

def fX1_weigh_L4 (k_45 : Sto → Int32 → Option Sto) : Nat → Sto → Int32 → Int32 → Option Sto
  | 0, _, _, _ => none
  | n + 1, σ, x1, x2 => if (σ 14 6) ≤ x2 then (
k_45 σ x1)
else (
gd (vin x2 6) (
gd (vin ((x2 * (16 : Int32)) + (σ 20 x2.toNatClampNeg)) 96) (
if (σ 17 ((x2 * (16 : Int32)) + (σ 20 x2.toNatClampNeg)).toNatClampNeg) = (0 : Int32) then (
un (x1 + (0 : Int32)) fun x_3 =>
un (x2 + (1 : Int32)) fun x_4 =>
fX1_weigh_L4 k_45 n σ x_3 x_4)
else (
un (x1 + (1 : Int32)) fun x_5 =>
un (x2 + (1 : Int32)) fun x_6 =>
fX1_weigh_L4 k_45 n σ x_5 x_6))))

def fX1_weigh (σ : Sto) : Option Sto :=
  fX1_weigh_L4 (fun σ_1 z_2 =>
if (σ_1 14 0) ≤ z_2 then (
some σ_1)
else (
un (up σ_1 14 0 z_2) fun σ_3 =>
gd (cpok (0 : Int32) (0 : Int32) (σ_3 14 7) 4 4) (
un (cpS σ_3 18 0 19 0 ((σ_3 14 7).toNatClampNeg)) fun σ_5 =>
some σ_5))) fu σ (0 : Int32) (0 : Int32)

def fX1_tryFrom_L15 (rc : Sto → Int32 → Option Sto) (k_69 : Sto → Int32 → Option Sto) : Nat → Sto → Int32 → Int32 → Option Sto
  | 0, _, _, _ => none
  | n + 1, σ, x1, x2 => if (σ 14 6) ≤ x2 then (
k_69 σ x1)
else (
gd (vin x1 4) (
un (up σ 18 (x1.toNatClampNeg) x2) fun σ_2 =>
gd (vin x2 6) (
un (up σ_2 20 (x2.toNatClampNeg) ((σ_2 20 x2.toNatClampNeg) ||| ((1 : Int32) <<< (x1 &&& (31 : Int32))))) fun σ_4 =>
bd (rc σ_4 (x1 + (1 : Int32))) fun q_5 =>
un (up q_5 20 (x2.toNatClampNeg) ((q_5 20 x2.toNatClampNeg) &&& (((1 : Int32) <<< (x1 &&& (31 : Int32))) ^^^ (-1 : Int32)))) fun σ_6 =>
un (x2 + (1 : Int32)) fun x_7 =>
fX1_tryFrom_L15 rc k_69 n σ_6 x1 x_7)))

def fX1_tryFrom (rc : Sto → Int32 → Option Sto) (σ : Sto) (x1 : Int32) : Option Sto :=
  if x1 < (σ 14 7) then (
fX1_tryFrom_L15 rc (fun σ_1 z_2 =>
gd (vin z_2 4) (
un (up σ_1 18 (z_2.toNatClampNeg) (σ_1 14 6)) fun σ_4 =>
bd (rc σ_4 (z_2 + (1 : Int32))) fun q_5 =>
some q_5)) fu σ x1 (0 : Int32))
else (
bd (fX1_weigh σ) fun q_6 =>
some q_6)

def fX1_tryFromD : Nat → Sto → Int32 → Option Sto
  | 0, _, _ => none
  | n + 1, σ, x1 => fX1_tryFrom (fX1_tryFromD n) σ x1
def fX1_tryFromR (σ : Sto) (x1 : Int32) : Option Sto := fX1_tryFromD 6 σ x1

def fX1_search (σ : Sto) (v1 : Nat) (x2 : Int32) (x3 : Int32) : Option Sto :=
  un (up σ 14 6 (σ v1 1)) fun σ_1 =>
un (up σ_1 14 7 (if (4 : Int32) < x2 then (4 : Int32) else x2)) fun σ_2 =>
bd (fX2_tell σ_2 15 v1 ((σ_2 14 7) + x3)) fun q_3 =>
bd (fX1_followAll q_3 v1 ((q_3 14 7) + x3)) fun q_4 =>
un (up q_4 14 0 (7 : Int32)) fun σ_5 =>
bd (fX1_tryFromR σ_5 (0 : Int32)) fun q_6 =>
some q_6

def fX1_choiceAt (σ : Sto) (x1 : Int32) : Option Int32 :=
  if x1 < (0 : Int32) then (
some (-1000000 : Int32))
else (
if (σ 14 7) ≤ x1 then (
some (-1000000 : Int32))
else (
gd (vin x1 4) (
if (σ 14 6) ≤ (σ 19 x1.toNatClampNeg) then (
some (-1000000 : Int32))
else (
some (σ 19 x1.toNatClampNeg)))))

def fX2_lavaIn (σ : Sto) (f0 : Nat) (x1 : Int32) (x2 : Int32) : Option Int32 :=
  gd (vin ((x2 * (10 : Int32)) + x1) (aLX (f0 + 1))) (
some (σ (f0 + 1) ((x2 * (10 : Int32)) + x1).toNatClampNeg))

def fX2_placeBehind_L6 (f0 : Nat) (v1 : Nat) (σ : Sto) : Nat → Int32 → Int32 → Int32 → Int32 → Option Int32
  | 0, _, _, _, _ => none
  | n + 1, x2, x4, x5, x6 => if x4 ≤ x6 then (
some x5)
else (
if (20 : Int32) ≤ x5 then (
some x5)
else (
bd (fX2_placeAfter σ f0 v1 x2 x5 x6) fun q_1 =>
un (x6 + (1 : Int32)) fun x_2 =>
fX2_placeBehind_L6 f0 v1 σ n x2 x4 q_1 x_2))

def fX2_placeBehind (σ : Sto) (f0 : Nat) (v1 : Nat) (x2 : Int32) (x3 : Int32) (x4 : Int32) : Option Int32 :=
  fX2_placeBehind_L6 f0 v1 σ fu x2 x4 x3 (0 : Int32)

def fX8_become (σ : Sto) (v0 : Nat) (v1 : Nat) : Sto :=
  un (up σ v0 0 (σ v1 0)) fun σ_1 =>
un (up σ_1 v0 1 (σ_1 v1 1)) fun σ_2 =>
un (up σ_2 v0 2 (σ_2 v1 2)) fun σ_3 =>
un (up σ_3 v0 3 (σ_3 v1 3)) fun σ_4 =>
un (up σ_4 v0 4 (σ_4 v1 4)) fun σ_5 =>
un (cpS σ_5 (v1 + 1) 0 (v0 + 1) 0 10) fun σ_6 =>
un (cpS σ_6 (v1 + 2) 0 (v0 + 2) 0 10) fun σ_7 =>
un (cpS σ_7 (v1 + 3) 0 (v0 + 3) 0 10) fun σ_8 =>
un (cpS σ_8 (v1 + 4) 0 (v0 + 4) 0 6) fun σ_9 =>
un (cpS σ_9 (v1 + 5) 0 (v0 + 5) 0 6) fun σ_10 =>
un (cpS σ_10 (v1 + 6) 0 (v0 + 6) 0 6) fun σ_11 =>
un (cpS σ_11 (v1 + 7) 0 (v0 + 7) 0 6) fun σ_12 =>
σ_12

def fX3_keep (σ : Sto) (v1 : Nat) : Option Sto :=
  gd (vin (irm ((σ 7 1) + (σ 7 0)) (24 : Int32)) 24) (
un (fX8_become σ (rgV (irm ((σ 7 1) + (σ 7 0)) (24 : Int32)).toNatClampNeg) v1) fun q_2 =>
if (24 : Int32) ≤ (q_2 7 0) then (
un (up q_2 7 1 (irm ((q_2 7 1) + (1 : Int32)) (24 : Int32))) fun σ_3 =>
some σ_3)
else (
un (up q_2 7 0 ((q_2 7 0) + (1 : Int32))) fun σ_4 =>
some σ_4))

def fX3_goBack (σ : Sto) (v1 : Nat) : Option (Sto × Int32) :=
  if (σ 7 0) = (0 : Int32) then (
some (σ, (0 : Int32)))
else (
un (up σ 7 0 ((σ 7 0) - (1 : Int32))) fun σ_1 =>
gd (vin (irm ((σ_1 7 1) + (σ_1 7 0)) (24 : Int32)) 24) (
un (fX8_become σ_1 v1 (rgV (irm ((σ_1 7 1) + (σ_1 7 0)) (24 : Int32)).toNatClampNeg)) fun q_3 =>
some (q_3, (1 : Int32))))

def fX3_forget (σ : Sto) : Sto :=
  un (up σ 7 0 (0 : Int32)) fun σ_1 =>
un (up σ_1 7 1 (0 : Int32)) fun σ_2 =>
σ_2

def fX4_isNumber (x1 : Int32) : Int32 :=
  if x1 < (0 : Int32) then (
(0 : Int32))
else (
if (8 : Int32) ≤ x1 then (
(0 : Int32))
else (
(1 : Int32)))

def fX4_isMissing (σ : Sto) (x1 : Int32) : Option Int32 :=
  gd (vin x1 8) (
if (σ 3 x1.toNatClampNeg) = (-1 : Int32) then (
some (1 : Int32))
else (
some (0 : Int32)))

def fX4_present_L4 (σ : Sto) : Nat → Int32 → Int32 → Option Int32
  | 0, _, _ => none
  | n + 1, x1, x2 => if (8 : Int32) ≤ x2 then (
some x1)
else (
bd (fX4_isMissing σ x2) fun q_1 =>
if q_1 = (0 : Int32) then (
un (x1 + (1 : Int32)) fun x_3 =>
un (x2 + (1 : Int32)) fun x_4 =>
fX4_present_L4 σ n x_3 x_4)
else (
un (x2 + (1 : Int32)) fun x_2 =>
fX4_present_L4 σ n x1 x_2))

def fX4_present (σ : Sto) : Option Int32 :=
  fX4_present_L4 σ fu (0 : Int32) (0 : Int32)

def fX4_make_L17 : Nat → Sto → Int32 → Int32 → Option Sto
  | 0, _, _, _ => none
  | n + 1, σ, x1, x4 => if (40 : Int32) ≤ x4 then (
some σ)
else (
gd (vin x1 8) (
gd (vin x4 40) (
un (up σ (itV x1.toNatClampNeg) (x4.toNatClampNeg) (0 : Int32)) fun σ_3 =>
un (x4 + (1 : Int32)) fun x_4 =>
fX4_make_L17 n σ_3 x1 x_4)))

def fX4_make (σ : Sto) (x1 : Int32) (x2 : Int32) (x3 : Int32) : Option Sto :=
  gd (vin x1 8) (
un (up σ 3 (x1.toNatClampNeg) x2) fun σ_2 =>
un (up σ_2 4 (x1.toNatClampNeg) x3) fun σ_3 =>
fX4_make_L17 fu σ_3 x1 (0 : Int32))

def fX4_lose (σ : Sto) (x1 : Int32) : Option (Sto × Int32) :=
  gd (vin x1 8) (
un (up σ 3 (x1.toNatClampNeg) (-1 : Int32)) fun σ_2 =>
some (σ_2, (σ_2 4 x1.toNatClampNeg)))

def fX4_cut (x0 : Int32) (x1 : Int32) : Int32 :=
  if x0 = (0 : Int32) then (
x1.toInt8.toInt32)
else (
if x0 = (1 : Int32) then (
x1.toInt16.toInt32)
else (
x1))

def fX4_put (σ : Sto) (x1 : Int32) (x2 : Int32) (x3 : Int32) : Option (Sto × Int32) :=
  gd (vin x1 8) (
gd (vin x2 40) (
un (up σ (itV x1.toNatClampNeg) (x2.toNatClampNeg) (fX4_cut (σ 3 x1.toNatClampNeg) x3)) fun σ_4 =>
some (σ_4, (σ_4 (itV x1.toNatClampNeg) x2.toNatClampNeg))))

def fX4_item (σ : Sto) (x1 : Int32) (x2 : Int32) : Option Int32 :=
  gd (vin x1 8) (
gd (vin x2 40) (
some (σ (itV x1.toNatClampNeg) x2.toNatClampNeg)))

def fX4_move (σ : Sto) (x1 : Int32) (x2 : Int32) (x3 : Int32) (x4 : Int32) (x5 : Int32) : Option Sto :=
  gd (vin x1 8) (
gd (vin x3 8) (
gd (cpok x2 x4 x5 40 40) (
un (cpS σ (itV x1.toNatClampNeg) (x2.toNatClampNeg) (itV x3.toNatClampNeg) (x4.toNatClampNeg) (x5.toNatClampNeg)) fun σ_4 =>
some σ_4)))

def fX4_hasPlaces (σ : Sto) (x1 : Int32) (x2 : Int32) (x3 : Int32) : Option Int32 :=
  if x2 < (0 : Int32) then (
some (0 : Int32))
else (
gd (vin x1 8) (
if (σ 4 x1.toNatClampNeg) < x2 then (
some (0 : Int32))
else (
if x3 < (0 : Int32) then (
some (0 : Int32))
else (
if ((σ 4 x1.toNatClampNeg) - x2) < x3 then (
some (0 : Int32))
else (
some (1 : Int32))))))

def fX4_findingAt (σ : Sto) (x1 : Int32) (x2 : Int32) (x3 : Int32) : Option Int32 :=
  bd (fX4_isMissing σ x1) fun q_1 =>
if q_1 = (0 : Int32) then (
bd (fX4_hasPlaces σ x1 x2 x3) fun q_2 =>
if q_2 = (0 : Int32) then (
some (2 : Int32))
else (
some (0 : Int32)))
else (
some (1 : Int32))

def fX4_findingBetween (σ : Sto) (x1 : Int32) (x2 : Int32) (x3 : Int32) (x4 : Int32) (x5 : Int32) : Option Int32 :=
  bd (fX4_isMissing σ x1) fun q_1 =>
if q_1 = (0 : Int32) then (
bd (fX4_isMissing σ x3) fun q_2 =>
if q_2 = (0 : Int32) then (
gd (vin x1 8) (
gd (vin x3 8) (
if (σ 3 x1.toNatClampNeg) = (σ 3 x3.toNatClampNeg) then (
bd (fX4_hasPlaces σ x1 x2 x5) fun q_5 =>
if q_5 = (0 : Int32) then (
some (2 : Int32))
else (
bd (fX4_hasPlaces σ x3 x4 x5) fun q_6 =>
if q_6 = (0 : Int32) then (
some (2 : Int32))
else (
some (0 : Int32))))
else (
some (5 : Int32)))))
else (
some (1 : Int32)))
else (
some (1 : Int32))

def fX5_placeBehind (σ : Sto) (v1 : Nat) (x2 : Int32) (x3 : Int32) : Option (Sto × Int32) :=
  bd (fX2_tell σ 11 v1 x3) fun q_1 =>
gd (vin x2 6) (
bd (fX2_placeBehind q_1 11 v1 x2 (q_1 (v1 + 6) x2.toNatClampNeg) x3) fun q_3 =>
some (q_1, q_3))

def fX5_lavaBehind (σ : Sto) (v1 : Nat) (x2 : Int32) (x3 : Int32) : Option (Sto × Int32) :=
  bd (fX2_tell σ 11 v1 x3) fun q_1 =>
bd (fX2_lavaIn q_1 11 x2 x3) fun q_2 =>
some (q_1, q_2)

def fX8_place (σ : Sto) (v0 : Nat) (x1 : Int32) (x2 : Int32) : Option Sto :=
  gd (vin x1 6) (
un (up σ (v0 + 6) (x1.toNatClampNeg) x2) fun σ_2 =>
if x2 = (20 : Int32) then (
some σ_2)
else (
if (20 : Int32) ≤ x2 then (
un (up σ_2 (v0 + 7) (x1.toNatClampNeg) (x2 - (30 : Int32))) fun σ_3 =>
some σ_3)
else (
un (up σ_2 (v0 + 7) (x1.toNatClampNeg) x2) fun σ_4 =>
some σ_4)))

def fX8_pass_L15 (v0 : Nat) : Nat → Sto → Int32 → Option Sto
  | 0, _, _ => none
  | n + 1, σ, x1 => if (σ v0 1) ≤ x1 then (
un (up σ v0 4 ((σ v0 4) + (1 : Int32))) fun σ_1 =>
some σ_1)
else (
gd (vin x1 6) (
bd (fX8_placeAfter σ v0 (σ (v0 + 6) x1.toNatClampNeg) (σ (v0 + 4) x1.toNatClampNeg) (σ (v0 + 5) x1.toNatClampNeg) (v0 + 2) (0 : Int32) (σ v0 4)) fun q_3 =>
bd (fX8_place σ v0 x1 q_3) fun q_4 =>
un (x1 + (1 : Int32)) fun x_5 =>
fX8_pass_L15 v0 n q_4 x_5))

def fX8_pass (σ : Sto) (v0 : Nat) : Option Sto :=
  bd (fX8_flow σ v0 (v0 + 2) (0 : Int32) (σ v0 4)) fun q_1 =>
fX8_pass_L15 v0 fu q_1 (0 : Int32)

def fX5_passTrial_L2 : Nat → Sto → Int32 → Int32 → Option Sto
  | 0, _, _, _ => none
  | n + 1, σ, x1, x2 => if x1 ≤ x2 then (
some σ)
else (
bd (fX8_pass σ 260) fun q_1 =>
un (x2 + (1 : Int32)) fun x_2 =>
fX5_passTrial_L2 n q_1 x1 x_2)

def fX5_passTrial (σ : Sto) (x1 : Int32) : Option Sto :=
  fX5_passTrial_L2 fu σ x1 (0 : Int32)

def fX8_stones_L4 (v0 : Nat) (σ : Sto) : Nat → Int32 → Int32 → Option Int32
  | 0, _, _ => none
  | n + 1, x1, x2 => if (σ v0 1) ≤ x2 then (
some x1)
else (
gd (vin x2 6) (
if (σ (v0 + 6) x2.toNatClampNeg) < (30 : Int32) then (
un (x2 + (1 : Int32)) fun x_2 =>
fX8_stones_L4 v0 σ n x1 x_2)
else (
un (x1 ||| ((1 : Int32) <<< (x2 &&& (31 : Int32)))) fun x_3 =>
un (x2 + (1 : Int32)) fun x_4 =>
fX8_stones_L4 v0 σ n x_3 x_4)))

def fX8_stones (σ : Sto) (v0 : Nat) : Option Int32 :=
  fX8_stones_L4 v0 σ fu (0 : Int32) (0 : Int32)

def fX5_stonesBehind (σ : Sto) (v1 : Nat) (x2 : Int32) : Option (Sto × Int32) :=
  un (fX8_become σ 260 v1) fun q_1 =>
bd (fX5_passTrial q_1 x2) fun q_2 =>
bd (fX8_stones q_2 260) fun q_3 =>
some (q_2, q_3)

def fX8_allAt_L4 (v0 : Nat) (σ : Sto) : Nat → Int32 → Int32 → Int32 → Option Int32
  | 0, _, _, _ => none
  | n + 1, x1, x2, x3 => if (σ v0 1) ≤ x3 then (
some x2)
else (
gd (vin x3 6) (
if (σ (v0 + 6) x3.toNatClampNeg) = x1 then (
un (x2 ||| ((1 : Int32) <<< (x3 &&& (31 : Int32)))) fun x_3 =>
un (x3 + (1 : Int32)) fun x_4 =>
fX8_allAt_L4 v0 σ n x1 x_3 x_4)
else (
un (x3 + (1 : Int32)) fun x_2 =>
fX8_allAt_L4 v0 σ n x1 x2 x_2)))

def fX8_allAt (σ : Sto) (v0 : Nat) (x1 : Int32) : Option Int32 :=
  fX8_allAt_L4 v0 σ fu x1 (0 : Int32) (0 : Int32)

def fX5_outsBehind (σ : Sto) (v1 : Nat) (x2 : Int32) : Option (Sto × Int32) :=
  un (fX8_become σ 260 v1) fun q_1 =>
bd (fX5_passTrial q_1 x2) fun q_2 =>
bd (fX8_allAt q_2 260 (20 : Int32)) fun q_3 =>
some (q_2, q_3)

def fX5_frontBehind_L16 (v1 : Nat) : Nat → Sto → Int32 → Int32 → Option (Sto × Int32)
  | 0, _, _, _ => none
  | n + 1, σ, x2, x3 => if x3 < (0 : Int32) then (
some (σ, (-1000000 : Int32)))
else (
bd (fX2_lavaIn σ 11 x3 x2) fun q_1 =>
if q_1 ≤ (0 : Int32) then (
un (x3 + (-1 : Int32)) fun x_2 =>
fX5_frontBehind_L16 v1 n σ x2 x_2)
else (
some (σ, x3)))

def fX5_frontBehind (σ : Sto) (v1 : Nat) (x2 : Int32) : Option (Sto × Int32) :=
  bd (fX2_tell σ 11 v1 x2) fun q_1 =>
un ((q_1 v1 0) - (1 : Int32)) fun x_2 =>
fX5_frontBehind_L16 v1 fu q_1 x2 x_2

def fX5_isCome (σ : Sto) (x1 : Int32) (x2 : Int32) (x3 : Int32) : Option Int32 :=
  if x2 = (0 : Int32) then (
if (30 : Int32) ≤ x1 then (
some (1 : Int32))
else (
if (20 : Int32) ≤ x1 then (
some (0 : Int32))
else (
bd (fX2_lavaIn σ 11 x1 x3) fun q_2 =>
if q_2 ≤ (0 : Int32) then (
some (0 : Int32))
else (
some (1 : Int32)))))
else (if x2 = (1 : Int32) then (
if x1 < (30 : Int32) then (
some (0 : Int32))
else (
some (1 : Int32)))
else (
if x1 = (20 : Int32) then (
some (1 : Int32))
else (
some (0 : Int32))))

def fX5_firstDay_L21 (k_64 : Sto → Int32 → Int32 → Option (Sto × Int32)) (v1 : Nat) : Nat → Sto → Int32 → Int32 → Int32 → Int32 → Option (Sto × Int32)
  | 0, _, _, _, _, _ => none
  | n + 1, σ, x2, x3, x4, x5 => if (60 : Int32) ≤ x5 then (
k_64 σ x3 x4)
else (
bd (fX5_isCome σ x4 x3 x5) fun q_1 =>
if q_1 = (0 : Int32) then (
bd (fX2_placeAfter σ 11 v1 x2 x4 x5) fun q_2 =>
un (x5 + (1 : Int32)) fun x_3 =>
fX5_firstDay_L21 k_64 v1 n σ x2 x3 q_2 x_3)
else (
some (σ, x5)))

def fX5_firstDay (σ : Sto) (v1 : Nat) (x2 : Int32) (x3 : Int32) : Option (Sto × Int32) :=
  bd (fX2_tell σ 11 v1 (60 : Int32)) fun q_1 =>
gd (vin x2 6) (
un (q_1 (v1 + 6) x2.toNatClampNeg) fun x_3 =>
fX5_firstDay_L21 (fun σ_4 z_5 z_6 =>
bd (fX5_isCome σ_4 z_6 z_5 (60 : Int32)) fun q_7 =>
if q_7 = (0 : Int32) then (
some (σ_4, (-1000000 : Int32)))
else (
some (σ_4, (60 : Int32)))) v1 fu q_1 x2 x3 x_3 (0 : Int32))

def fX5_stonesWithDam (σ : Sto) (v1 : Nat) (x2 : Int32) (x3 : Int32) (x4 : Int32) : Option (Sto × Int32) :=
  un (fX8_become σ 260 v1) fun q_1 =>
gd (vin x2 10) (
un (up q_1 263 (x2.toNatClampNeg) x3) fun σ_3 =>
bd (fX5_passTrial σ_3 x4) fun q_4 =>
bd (fX8_stones q_4 260) fun q_5 =>
some (q_4, (fJ6_bitCount_0f7a4 q_5)))

def fX5_bestDam_L10 (v1 : Nat) : Nat → Sto → Int32 → Int32 → Int32 → Int32 → Int32 → Option (Sto × Int32)
  | 0, _, _, _, _, _, _ => none
  | n + 1, σ, x2, x3, x4, x5, x6 => if (σ v1 0) ≤ x6 then (
some (σ, x4))
else (
bd (fX5_stonesWithDam σ v1 x6 x2 x3) fun q_1 =>
if x5 ≤ q_1.2 then (
un (x6 + (1 : Int32)) fun x_2 =>
fX5_bestDam_L10 v1 n q_1.1 x2 x3 x4 x5 x_2)
else (
un (x6 + (1 : Int32)) fun x_3 =>
fX5_bestDam_L10 v1 n q_1.1 x2 x3 x6 q_1.2 x_3))

def fX5_bestDam (σ : Sto) (v1 : Nat) (x2 : Int32) (x3 : Int32) : Option (Sto × Int32) :=
  fX5_bestDam_L10 v1 fu σ x2 x3 (0 : Int32) (7 : Int32) (0 : Int32)

def fX5_leastWall_L11 (v1 : Nat) : Nat → Sto → Int32 → Int32 → Int32 → Int32 → Option (Sto × Int32)
  | 0, _, _, _, _, _ => none
  | n + 1, σ, x2, x3, x4, x5 => if (9 : Int32) < x5 then (
some (σ, (-1000000 : Int32)))
else (
gd (vin x3 10) (
un (up σ 263 (x3.toNatClampNeg) x5) fun σ_2 =>
bd (fX2_tell σ_2 11 260 x4) fun q_3 =>
bd (fX2_lavaIn q_3 11 x2 x4) fun q_4 =>
if q_4 = (0 : Int32) then (
some (q_3, x5))
else (
un (x5 + (1 : Int32)) fun x_5 =>
fX5_leastWall_L11 v1 n q_3 x2 x3 x4 x_5)))

def fX5_leastWall (σ : Sto) (v1 : Nat) (x2 : Int32) (x3 : Int32) (x4 : Int32) : Option (Sto × Int32) :=
  un (fX8_become σ 260 v1) fun q_1 =>
fX5_leastWall_L11 v1 fu q_1 x2 x3 x4 (0 : Int32)

def fX5_mostFeed_L3 (v1 : Nat) : Nat → Sto → Int32 → Int32 → Option (Sto × Int32)
  | 0, _, _, _ => none
  | n + 1, σ, x2, x3 => if x3 < (0 : Int32) then (
some (σ, (-1000000 : Int32)))
else (
un (fX8_become σ 260 v1) fun q_1 =>
un (up q_1 260 2 x3) fun σ_2 =>
bd (fX5_passTrial σ_2 x2) fun q_3 =>
bd (fX8_stones q_3 260) fun q_4 =>
bd (fX8_stones q_3 v1) fun q_5 =>
if q_4 = q_5 then (
some (q_3, x3))
else (
un (x3 + (-1 : Int32)) fun x_6 =>
fX5_mostFeed_L3 v1 n q_3 x2 x_6))

def fX5_mostFeed (σ : Sto) (v1 : Nat) (x2 : Int32) : Option (Sto × Int32) :=
  fX5_mostFeed_L3 v1 fu σ x2 (20 : Int32)

def fX8_standing_L4 (v0 : Nat) (σ : Sto) : Nat → Int32 → Int32 → Option Int32
  | 0, _, _ => none
  | n + 1, x1, x2 => if (σ v0 1) ≤ x2 then (
some x1)
else (
gd (vin x2 6) (
if (20 : Int32) ≤ (σ (v0 + 6) x2.toNatClampNeg) then (
un (x2 + (1 : Int32)) fun x_2 =>
fX8_standing_L4 v0 σ n x1 x_2)
else (
un (x1 ||| ((1 : Int32) <<< (x2 &&& (31 : Int32)))) fun x_3 =>
un (x2 + (1 : Int32)) fun x_4 =>
fX8_standing_L4 v0 σ n x_3 x_4)))

def fX8_standing (σ : Sto) (v0 : Nat) : Option Int32 :=
  fX8_standing_L4 v0 σ fu (0 : Int32) (0 : Int32)

def fX5_highOfAll_L4 (v0 : Nat) (σ : Sto) : Nat → Int32 → Int32 → Int32 → Option Int32
  | 0, _, _, _ => none
  | n + 1, x1, x2, x3 => if (σ v0 1) ≤ x3 then (
some x2)
else (
if ((x1 >>> (x3 &&& (31 : Int32))) &&& (1 : Int32)) = (1 : Int32) then (
gd (vin x3 6) (
un (x2 + (σ (v0 + 5) x3.toNatClampNeg)) fun x_3 =>
un (x3 + (1 : Int32)) fun x_4 =>
fX5_highOfAll_L4 v0 σ n x1 x_3 x_4))
else (
un (x3 + (1 : Int32)) fun x_1 =>
fX5_highOfAll_L4 v0 σ n x1 x2 x_1))

def fX5_highOfAll (σ : Sto) (v0 : Nat) (x1 : Int32) : Option Int32 :=
  fX5_highOfAll_L4 v0 σ fu x1 (0 : Int32) (0 : Int32)

def fX5_setsSoHigh_L19 (k_73 : Int32 → Int32 → Int32 → Int32 → Option Int32) (v1 : Nat) (σ : Sto) : Nat → Int32 → Int32 → Int32 → Int32 → Int32 → Int32 → Int32 → Option Int32
  | 0, _, _, _, _, _, _, _ => none
  | n + 1, x2, x3, x4, x5, x6, x7, x8 => if ((1 : Int32) <<< ((σ v1 1) &&& (31 : Int32))) ≤ x8 then (
k_73 x3 x5 x6 x7)
else (
if (x8 &&& (x4 ^^^ (-1 : Int32))) = (0 : Int32) then (
bd (fX5_highOfAll σ v1 x8) fun q_2 =>
if q_2 = x2 then (
un (x5 + (1 : Int32)) fun x_4 =>
un (x6 &&& x8) fun x_5 =>
un (x7 ||| x8) fun x_6 =>
un (x8 + (1 : Int32)) fun x_7 =>
fX5_setsSoHigh_L19 k_73 v1 σ n x2 x3 x4 x_4 x_5 x_6 x_7)
else (
un (x8 + (1 : Int32)) fun x_3 =>
fX5_setsSoHigh_L19 k_73 v1 σ n x2 x3 x4 x5 x6 x7 x_3))
else (
un (x8 + (1 : Int32)) fun x_1 =>
fX5_setsSoHigh_L19 k_73 v1 σ n x2 x3 x4 x5 x6 x7 x_1))

def fX5_setsSoHigh (σ : Sto) (v1 : Nat) (x2 : Int32) (x3 : Int32) : Option Int32 :=
  bd (fX8_standing σ v1) fun q_1 =>
fX5_setsSoHigh_L19 (fun z_2 z_3 z_4 z_5 =>
if z_2 = (0 : Int32) then (
some z_3)
else (
if z_2 = (1 : Int32) then (
if z_3 = (0 : Int32) then (
some (0 : Int32))
else (
some z_4))
else (
some z_5))) v1 σ fu x2 x3 q_1 (0 : Int32) q_1 (0 : Int32) (0 : Int32)

def fX5_partOf_L41 (k_100 : Int32 → Int32 → Int32 → Int32 → Int32 → Option Int32) (v1 : Nat) (σ : Sto) : Nat → Int32 → Int32 → Int32 → Int32 → Int32 → Int32 → Int32 → Option Int32
  | 0, _, _, _, _, _, _, _ => none
  | n + 1, x2, x3, x4, x5, x6, x7, x8 => if (σ v1 1) ≤ x8 then (
k_100 x2 x3 x5 x6 x7)
else (
if ((x4 >>> (x8 &&& (31 : Int32))) &&& (1 : Int32)) = (1 : Int32) then (
gd (vin x8 6) (
gd (nz x5) (
un (x6 - ((x3 * (σ (v1 + 5) x8.toNatClampNeg)) / x5)) fun x_4 =>
if x2 ≤ x8 then (
un (x7 + (0 : Int32)) fun x_5 =>
un (x8 + (1 : Int32)) fun x_6 =>
fX5_partOf_L41 k_100 v1 σ n x2 x3 x4 x5 x_4 x_5 x_6)
else (
un (x7 + (1 : Int32)) fun x_7 =>
un (x8 + (1 : Int32)) fun x_8 =>
fX5_partOf_L41 k_100 v1 σ n x2 x3 x4 x5 x_4 x_7 x_8))))
else (
un (x8 + (1 : Int32)) fun x_1 =>
fX5_partOf_L41 k_100 v1 σ n x2 x3 x4 x5 x6 x7 x_1))

def fX5_partOf (σ : Sto) (v1 : Nat) (x2 : Int32) (x3 : Int32) : Option Int32 :=
  bd (fX8_allAt σ v1 (20 : Int32)) fun q_1 =>
bd (fX5_highOfAll σ v1 q_1) fun q_2 =>
if ((q_1 >>> (x2 &&& (31 : Int32))) &&& (1 : Int32)) = (0 : Int32) then (
some (0 : Int32))
else (
if (0 : Int32) < q_2 then (
fX5_partOf_L41 (fun z_3 z_4 z_5 z_6 z_7 =>
gd (vin z_3 6) (
gd (nz z_5) (
if z_6 ≤ z_7 then (
some (((z_4 * (σ (v1 + 5) z_3.toNatClampNeg)) / z_5) + (0 : Int32)))
else (
some (((z_4 * (σ (v1 + 5) z_3.toNatClampNeg)) / z_5) + (1 : Int32)))))) v1 σ fu x2 x3 q_1 q_2 x3 (0 : Int32) (0 : Int32))
else (
some (0 : Int32)))

def fX5_hear_L14 : Nat → Sto → Int32 → Int32 → Int32 → Option Sto
  | 0, _, _, _, _ => none
  | n + 1, σ, x2, x3, x5 => if (σ 10 3) ≤ x5 then (
some σ)
else (
bd (fX4_item σ x2 (x3 + x5)) fun q_1 =>
gd (vin x5 12) (
un (up σ 13 (x5.toNatClampNeg) q_1) fun σ_3 =>
un (x5 + (1 : Int32)) fun x_4 =>
fX5_hear_L14 n σ_3 x2 x3 x_4))

def fX5_hear (σ : Sto) (x2 : Int32) (x3 : Int32) (x4 : Int32) : Option Sto :=
  un (up σ 10 3 (if (12 : Int32) < x4 then (12 : Int32) else x4)) fun σ_1 =>
fX5_hear_L14 fu σ_1 x2 x3 (0 : Int32)

def fX5_goesAsHeard_L5 (σ : Sto) : Nat → Int32 → Int32 → Int32 → Option Int32
  | 0, _, _, _ => none
  | n + 1, x1, x3, x4 => if (σ 10 3) ≤ x4 then (
some (1 : Int32))
else (
bd (fX2_placeAfter σ 11 260 x1 x3 x4) fun q_1 =>
gd (vin x4 12) (
if q_1 = (σ 13 x4.toNatClampNeg) then (
un (x4 + (1 : Int32)) fun x_3 =>
fX5_goesAsHeard_L5 σ n x1 q_1 x_3)
else (
some (0 : Int32))))

def fX5_goesAsHeard (σ : Sto) (x1 : Int32) (x2 : Int32) : Option Int32 :=
  fX5_goesAsHeard_L5 σ fu x1 x2 (0 : Int32)

def fX5_kindsThatFit_L28 (v1 : Nat) : Nat → Sto → Int32 → Int32 → Int32 → Option (Sto × Int32)
  | 0, _, _, _, _ => none
  | n + 1, σ, x2, x3, x4 => if (5 : Int32) < x4 then (
some (σ, x3))
else (
gd (vin x2 6) (
un (up σ 264 (x2.toNatClampNeg) x4) fun σ_2 =>
bd (fX5_goesAsHeard σ_2 x2 (σ_2 (v1 + 6) x2.toNatClampNeg)) fun q_3 =>
if q_3 = (0 : Int32) then (
un (x3 ||| (0 : Int32)) fun x_4 =>
un (x4 + (1 : Int32)) fun x_5 =>
fX5_kindsThatFit_L28 v1 n σ_2 x2 x_4 x_5)
else (
un (x3 ||| ((1 : Int32) <<< (x4 &&& (31 : Int32)))) fun x_6 =>
un (x4 + (1 : Int32)) fun x_7 =>
fX5_kindsThatFit_L28 v1 n σ_2 x2 x_6 x_7)))

def fX5_kindsThatFit (σ : Sto) (v1 : Nat) (x2 : Int32) : Option (Sto × Int32) :=
  un (fX8_become σ 260 v1) fun q_1 =>
bd (fX2_tell q_1 11 260 (q_1 10 3)) fun q_2 =>
fX5_kindsThatFit_L28 v1 fu q_2 x2 (0 : Int32) (1 : Int32)

def fX5_highsThatFit_L28 (v1 : Nat) : Nat → Sto → Int32 → Int32 → Int32 → Option (Sto × Int32)
  | 0, _, _, _, _ => none
  | n + 1, σ, x2, x3, x4 => if (9 : Int32) < x4 then (
some (σ, x3))
else (
gd (vin x2 6) (
un (up σ 265 (x2.toNatClampNeg) x4) fun σ_2 =>
bd (fX5_goesAsHeard σ_2 x2 (σ_2 (v1 + 6) x2.toNatClampNeg)) fun q_3 =>
if q_3 = (0 : Int32) then (
un (x3 ||| (0 : Int32)) fun x_4 =>
un (x4 + (1 : Int32)) fun x_5 =>
fX5_highsThatFit_L28 v1 n σ_2 x2 x_4 x_5)
else (
un (x3 ||| ((1 : Int32) <<< (x4 &&& (31 : Int32)))) fun x_6 =>
un (x4 + (1 : Int32)) fun x_7 =>
fX5_highsThatFit_L28 v1 n σ_2 x2 x_6 x_7)))

def fX5_highsThatFit (σ : Sto) (v1 : Nat) (x2 : Int32) : Option (Sto × Int32) :=
  un (fX8_become σ 260 v1) fun q_1 =>
bd (fX2_tell q_1 11 260 (q_1 10 3)) fun q_2 =>
fX5_highsThatFit_L28 v1 fu q_2 x2 (0 : Int32) (1 : Int32)

def fX5_roomsThatFit_L28 (v1 : Nat) : Nat → Sto → Int32 → Int32 → Int32 → Option (Sto × Int32)
  | 0, _, _, _, _ => none
  | n + 1, σ, x2, x3, x4 => if (σ v1 0) ≤ x4 then (
some (σ, x3))
else (
bd (fX5_goesAsHeard σ x2 x4) fun q_1 =>
if q_1 = (0 : Int32) then (
un (x3 ||| (0 : Int32)) fun x_2 =>
un (x4 + (1 : Int32)) fun x_3 =>
fX5_roomsThatFit_L28 v1 n σ x2 x_2 x_3)
else (
un (x3 ||| ((1 : Int32) <<< (x4 &&& (31 : Int32)))) fun x_4 =>
un (x4 + (1 : Int32)) fun x_5 =>
fX5_roomsThatFit_L28 v1 n σ x2 x_4 x_5))

def fX5_roomsThatFit (σ : Sto) (v1 : Nat) (x2 : Int32) : Option (Sto × Int32) :=
  un (fX8_become σ 260 v1) fun q_1 =>
bd (fX2_tell q_1 11 260 (q_1 10 3)) fun q_2 =>
fX5_roomsThatFit_L28 v1 fu q_2 x2 (0 : Int32) (0 : Int32)

def fX5_liesAsHeard_L17 : Nat → Sto → Int32 → Int32 → Option (Sto × Int32)
  | 0, _, _, _ => none
  | n + 1, σ, x1, x2 => if (σ 10 3) ≤ x2 then (
some (σ, (1 : Int32)))
else (
bd (fX2_lavaIn σ 11 x1 (x2 + (1 : Int32))) fun q_1 =>
gd (vin x2 12) (
if q_1 = (σ 13 x2.toNatClampNeg) then (
un (x2 + (1 : Int32)) fun x_3 =>
fX5_liesAsHeard_L17 n σ x1 x_3)
else (
some (σ, (0 : Int32)))))

def fX5_liesAsHeard (σ : Sto) (x1 : Int32) : Option (Sto × Int32) :=
  bd (fX2_tell σ 11 260 (σ 10 3)) fun q_1 =>
fX5_liesAsHeard_L17 fu q_1 x1 (0 : Int32)

def fX5_floorsThatFit_L13 (v1 : Nat) : Nat → Sto → Int32 → Int32 → Int32 → Option (Sto × Int32)
  | 0, _, _, _, _ => none
  | n + 1, σ, x2, x3, x4 => if (9 : Int32) < x4 then (
some (σ, x3))
else (
gd (vin x2 10) (
un (up σ 261 (x2.toNatClampNeg) x4) fun σ_2 =>
bd (fX5_liesAsHeard σ_2 x2) fun q_3 =>
if q_3.2 = (0 : Int32) then (
un (x3 ||| (0 : Int32)) fun x_4 =>
un (x4 + (1 : Int32)) fun x_5 =>
fX5_floorsThatFit_L13 v1 n q_3.1 x2 x_4 x_5)
else (
un (x3 ||| ((1 : Int32) <<< (x4 &&& (31 : Int32)))) fun x_6 =>
un (x4 + (1 : Int32)) fun x_7 =>
fX5_floorsThatFit_L13 v1 n q_3.1 x2 x_6 x_7)))

def fX5_floorsThatFit (σ : Sto) (v1 : Nat) (x2 : Int32) : Option (Sto × Int32) :=
  un (fX8_become σ 260 v1) fun q_1 =>
fX5_floorsThatFit_L13 v1 fu q_1 x2 (0 : Int32) (0 : Int32)

def fX5_feedsThatFit_L13 (v1 : Nat) : Nat → Sto → Int32 → Int32 → Int32 → Option (Sto × Int32)
  | 0, _, _, _, _ => none
  | n + 1, σ, x2, x3, x4 => if (20 : Int32) < x4 then (
some (σ, x3))
else (
un (up σ 260 2 x4) fun σ_1 =>
bd (fX5_liesAsHeard σ_1 x2) fun q_2 =>
if q_2.2 = (0 : Int32) then (
un (x3 ||| (0 : Int32)) fun x_3 =>
un (x4 + (1 : Int32)) fun x_4 =>
fX5_feedsThatFit_L13 v1 n q_2.1 x2 x_3 x_4)
else (
un (x3 ||| ((1 : Int32) <<< (x4 &&& (31 : Int32)))) fun x_5 =>
un (x4 + (1 : Int32)) fun x_6 =>
fX5_feedsThatFit_L13 v1 n q_2.1 x2 x_5 x_6))

def fX5_feedsThatFit (σ : Sto) (v1 : Nat) (x2 : Int32) : Option (Sto × Int32) :=
  un (fX8_become σ 260 v1) fun q_1 =>
fX5_feedsThatFit_L13 v1 fu q_1 x2 (0 : Int32) (0 : Int32)

def fX5_wallsThatStand_L4 (v0 : Nat) (σ : Sto) : Nat → Int32 → Int32 → Option Int32
  | 0, _, _ => none
  | n + 1, x1, x2 => if (σ v0 0) ≤ x2 then (
some x1)
else (
gd (vin x2 10) (
if (σ (v0 + 3) x2.toNatClampNeg) = (0 : Int32) then (
un (x1 ||| (0 : Int32)) fun x_2 =>
un (x2 + (1 : Int32)) fun x_3 =>
fX5_wallsThatStand_L4 v0 σ n x_2 x_3)
else (
un (x1 ||| ((1 : Int32) <<< (x2 &&& (31 : Int32)))) fun x_4 =>
un (x2 + (1 : Int32)) fun x_5 =>
fX5_wallsThatStand_L4 v0 σ n x_4 x_5)))

def fX5_wallsThatStand (σ : Sto) (v0 : Nat) : Option Int32 :=
  fX5_wallsThatStand_L4 v0 σ fu (0 : Int32) (0 : Int32)

def fX5_casesOf_L5 : Nat → Int32 → Int32 → Int32 → Int64 → Int32 → Option Int64
  | 0, _, _, _, _, _ => none
  | n + 1, x0, x1, x2, x3, x5 => if (10 : Int32) ≤ x5 then (
some x3)
else (
if ((x0 >>> (x5 &&& (31 : Int32))) &&& (1 : Int32)) = (1 : Int32) then (
if ((x1 >>> (x5 &&& (31 : Int32))) &&& (1 : Int32)) = (1 : Int32) then (
un (x3 * x2.toInt64) fun x_4 =>
un (x5 + (1 : Int32)) fun x_5 =>
fX5_casesOf_L5 n x0 x1 x2 x_4 x_5)
else (
un (x3 * (((10 : Int32) - x2).toInt64)) fun x_2 =>
un (x5 + (1 : Int32)) fun x_3 =>
fX5_casesOf_L5 n x0 x1 x2 x_2 x_3))
else (
un (x5 + (1 : Int32)) fun x_1 =>
fX5_casesOf_L5 n x0 x1 x2 x3 x_1))

def fX5_casesOf (x0 : Int32) (x1 : Int32) (x2 : Int32) : Option Int64 :=
  fX5_casesOf_L5 fu x0 x1 x2 (1 : Int64) (0 : Int32)

def fX5_isSpared_L11 (k_48 : Sto → Int32 → Int32 → Option (Sto × Int32)) (v1 : Nat) : Nat → Sto → Int32 → Int32 → Int32 → Int32 → Option (Sto × Int32)
  | 0, _, _, _, _, _ => none
  | n + 1, σ, x2, x3, x4, x5 => if (σ v1 0) ≤ x5 then (
k_48 σ x2 x3)
else (
if ((x4 >>> (x5 &&& (31 : Int32))) &&& (1 : Int32)) = (1 : Int32) then (
gd (vin x5 10) (
un (up σ 263 (x5.toNatClampNeg) (0 : Int32)) fun σ_3 =>
un (x5 + (1 : Int32)) fun x_4 =>
fX5_isSpared_L11 k_48 v1 n σ_3 x2 x3 x4 x_4))
else (
un (x5 + (1 : Int32)) fun x_1 =>
fX5_isSpared_L11 k_48 v1 n σ x2 x3 x4 x_1))

def fX5_isSpared_L59 (k_138 : Sto → Int32 → Option (Sto × Int32)) (v1 : Nat) : Nat → Sto → Int32 → Int32 → Int32 → Int32 → Option (Sto × Int32)
  | 0, _, _, _, _, _ => none
  | n + 1, σ, x2, x3, x5, x6 => if x3 ≤ x6 then (
k_138 σ x5)
else (
if (20 : Int32) ≤ x5 then (
k_138 σ x5)
else (
bd (fX8_flow σ 260 262 (0 : Int32) ((σ v1 4) + x6)) fun q_1 =>
gd (vin x2 6) (
bd (fX8_placeAfter q_1 260 x5 (q_1 (v1 + 4) x2.toNatClampNeg) (q_1 (v1 + 5) x2.toNatClampNeg) 262 (0 : Int32) ((q_1 v1 4) + x6)) fun q_3 =>
un (x6 + (1 : Int32)) fun x_4 =>
fX5_isSpared_L59 k_138 v1 n q_1 x2 x3 q_3 x_4)))

def fX5_isSpared_j138 (v1 : Nat) (σ : Sto) (x5 : Int32) : Option (Sto × Int32) :=
  if (30 : Int32) ≤ x5 then (
some (σ, (0 : Int32)))
else (
some (σ, (1 : Int32)))

def fX5_isSpared (σ : Sto) (v1 : Nat) (x2 : Int32) (x3 : Int32) (x4 : Int32) : Option (Sto × Int32) :=
  un (fX8_become σ 260 v1) fun q_1 =>
fX5_isSpared_L11 (fun σ_2 z_3 z_4 =>
gd (vin z_3 6) (
un (σ_2 (v1 + 6) z_3.toNatClampNeg) fun x_6 =>
fX5_isSpared_L59 (fX5_isSpared_j138 v1) v1 fu σ_2 z_3 z_4 x_6 (0 : Int32))) v1 fu q_1 x2 x3 x4 (0 : Int32)

def fX5_greatestDivisor_L9 : Nat → Int64 → Int64 → Int32 → Option Int64
  | 0, _, _, _ => none
  | n + 1, x4, x6, x8 => if (100 : Int32) ≤ x8 then (
some x4)
else (
if (lg_cmp x6 (0 : Int64)) = (0 : Int32) then (
some x4)
else (
gd (nzL x6) (
un (lrm x4 x6) fun x_2 =>
un (x8 + (1 : Int32)) fun x_3 =>
fX5_greatestDivisor_L9 n x6 x_2 x_3)))

def fX5_greatestDivisor (x0 : Int64) (x2 : Int64) : Option Int64 :=
  fX5_greatestDivisor_L9 fu x0 x2 (0 : Int32)

def fX5_likelySpared_L12 (k_36 : Sto → Int32 → Int32 → Int32 → Int32 → Int32 → Int64 → Option (Sto × Int64)) (v1 : Nat) : Nat → Sto → Int32 → Int32 → Int32 → Int32 → Int32 → Int64 → Int32 → Option (Sto × Int64)
  | 0, _, _, _, _, _, _, _, _ => none
  | n + 1, σ, x2, x3, x4, x5, x6, x7, x9 => if (fJ6_bitCount_0f7a4 x6) ≤ x9 then (
k_36 σ x2 x3 x4 x5 x6 x7)
else (
un (x7 * (10 : Int64)) fun x_2 =>
un (x9 + (1 : Int32)) fun x_3 =>
fX5_likelySpared_L12 k_36 v1 n σ x2 x3 x4 x5 x6 x_2 x_3)

def fX5_likelySpared_j76 (k_42 : Sto → Int32 → Int32 → Int32 → Int32 → Int32 → Int64 → Int64 → Int32 → Option (Sto × Int64)) (v1 : Nat) (σ : Sto) (x2 : Int32) (x3 : Int32) (x4 : Int32) (x5 : Int32) (x6 : Int32) (x7 : Int64) (x9 : Int64) (x11 : Int32) (y0 : Int64) : Option (Sto × Int64) :=
  if (lg_cmp y0 (0 : Int64)) ≤ (0 : Int32) then (
un (x11 + (1 : Int32)) fun x_1 =>
k_42 σ x2 x3 x4 x5 x6 x7 x9 x_1)
else (
bd (fX5_isSpared σ v1 x2 x3 x11) fun q_2 =>
if q_2.2 = (0 : Int32) then (
un (x11 + (1 : Int32)) fun x_3 =>
k_42 q_2.1 x2 x3 x4 x5 x6 x7 x9 x_3)
else (
un (x9 + y0) fun x_4 =>
un (x11 + (1 : Int32)) fun x_5 =>
k_42 q_2.1 x2 x3 x4 x5 x6 x7 x_4 x_5))

def fX5_likelySpared_L42 (k_110 : Sto → Int32 → Int64 → Int64 → Option (Sto × Int64)) (v1 : Nat) : Nat → Sto → Int32 → Int32 → Int32 → Int32 → Int32 → Int64 → Int64 → Int32 → Option (Sto × Int64)
  | 0, _, _, _, _, _, _, _, _, _ => none
  | n + 1, σ, x2, x3, x4, x5, x6, x7, x9, x11 => if ((1 : Int32) <<< ((σ v1 0) &&& (31 : Int32))) ≤ x11 then (
k_110 σ x5 x7 x9)
else (
if (x11 &&& (x6 ^^^ (-1 : Int32))) = (0 : Int32) then (
bd (fX5_casesOf x6 x11 x4) fun q_10 =>
fX5_likelySpared_j76 (fX5_likelySpared_L42 k_110 v1 n) v1 σ x2 x3 x4 x5 x6 x7 x9 x11 q_10)
else (
fX5_likelySpared_j76 (fX5_likelySpared_L42 k_110 v1 n) v1 σ x2 x3 x4 x5 x6 x7 x9 x11 (0 : Int64)))

def fX5_likelySpared (σ : Sto) (v1 : Nat) (x2 : Int32) (x3 : Int32) (x4 : Int32) (x5 : Int32) : Option (Sto × Int64) :=
  bd (fX5_wallsThatStand σ v1) fun q_1 =>
fX5_likelySpared_L12 (fun σ_2 z_3 z_4 z_5 z_6 z_7 z_8 =>
fX5_likelySpared_L42 (fun σ_9 z_10 z_11 z_12 =>
bd (fX5_greatestDivisor z_11 z_12) fun q_13 =>
if (0 : Int32) < (lg_cmp q_13 (0 : Int64)) then (
if z_10 = (0 : Int32) then (
gd (nzL q_13) (
some (σ_9, (z_12 / q_13))))
else (
gd (nzL q_13) (
some (σ_9, (z_11 / q_13)))))
else (
some (σ_9, (0 : Int64)))) v1 fu σ_2 z_3 z_4 z_5 z_6 z_7 z_8 (0 : Int64) (0 : Int32)) v1 fu σ x2 x3 x4 x5 q_1 (1 : Int64) (0 : Int32)

def fX8_stands (σ : Sto) (v0 : Nat) (x1 : Int32) : Option Int32 :=
  gd (vin x1 6) (
if (20 : Int32) ≤ (σ (v0 + 6) x1.toNatClampNeg) then (
some (0 : Int32))
else (
some (1 : Int32)))

def fX5_draw_j23 (σ : Sto) (x1 : Int64) : Option Sto :=
  gd (nzL ((σ 260 1).toInt64)) (
un ((lrm x1 ((σ 260 1).toInt64)).toInt32) fun x_2 =>
bd (fX8_stands σ 260 x_2) fun q_3 =>
if q_3 = (0 : Int32) then (
gd (nzL ((σ 260 0).toInt64)) (
bd (fX8_place σ 260 x_2 ((lrm x1 ((σ 260 0).toInt64)).toInt32)) fun q_5 =>
some q_5))
else (
some σ))

def fX5_draw (σ : Sto) (x1 : Int64) : Option Sto :=
  if (lg_cmp (lrm x1 (3 : Int64)) (0 : Int64)) = (0 : Int32) then (
un (up σ 260 2 ((lrm x1 (10 : Int64)).toInt32)) fun σ_1 =>
fX5_draw_j23 σ_1 x1)
else (
fX5_draw_j23 σ x1)

def fX5_becameInYears_L34 (v1 : Nat) : Nat → Sto → Int32 → Int32 → Int64 → Int32 → Int32 → Option (Sto × Int32)
  | 0, _, _, _, _, _, _ => none
  | n + 1, σ, x2, x4, x5, x7, x8 => if x2 ≤ x8 then (
some (σ, x7))
else (
un (lrm (x5 * (16807 : Int64)) (2147483647 : Int64)) fun x_1 =>
bd (fX5_draw σ x_1) fun q_2 =>
bd (fX8_standing q_2 260) fun q_3 =>
bd (fX8_pass q_2 260) fun q_4 =>
if x4 = (0 : Int32) then (
bd (fX8_stones q_4 260) fun q_9 =>
un (x7 + (fJ6_bitCount_0f7a4 (q_3 &&& q_9))) fun x_11 =>
un (x8 + (1 : Int32)) fun x_12 =>
fX5_becameInYears_L34 v1 n q_4 x2 x4 x_1 x_11 x_12)
else (
bd (fX8_allAt q_4 260 (20 : Int32)) fun q_5 =>
un (x7 + (fJ6_bitCount_0f7a4 (q_3 &&& q_5))) fun x_7 =>
un (x8 + (1 : Int32)) fun x_8 =>
fX5_becameInYears_L34 v1 n q_4 x2 x4 x_1 x_7 x_8))

def fX5_becameInYears (σ : Sto) (v1 : Nat) (x2 : Int32) (x3 : Int32) (x4 : Int32) : Option (Sto × Int32) :=
  if (σ v1 1) ≤ (0 : Int32) then (
some (σ, (0 : Int32)))
else (
if (0 : Int32) < (σ v1 0) then (
un (fX8_become σ 260 v1) fun q_1 =>
fX5_becameInYears_L34 v1 fu q_1 x2 x4 x3.toInt64 (0 : Int32) (0 : Int32))
else (
some (σ, (0 : Int32))))

def fX6_takeByte (σ : Sto) (x1 : Int32) : Option (Sto × Int32) :=
  if (σ 5 1) < (90 : Int32) then (
gd (vin (σ 5 1) 90) (
un (up σ 6 ((σ 5 1).toNatClampNeg) x1) fun σ_2 =>
un (up σ_2 5 1 ((σ_2 5 1) + (1 : Int32))) fun σ_3 =>
some (σ_3, (1 : Int32))))
else (
some (σ, (0 : Int32)))

def fX8_clear (σ : Sto) (v0 : Nat) : Sto :=
  un (up σ v0 0 (0 : Int32)) fun σ_1 =>
un (up σ_1 v0 1 (0 : Int32)) fun σ_2 =>
un (up σ_2 v0 2 (0 : Int32)) fun σ_3 =>
un (up σ_3 v0 3 (0 : Int32)) fun σ_4 =>
un (up σ_4 v0 4 (0 : Int32)) fun σ_5 =>
σ_5

def fX6_next (σ : Sto) : Option Int32 :=
  if (σ 5 1) ≤ (σ 5 5) then (
some (-1 : Int32))
else (
gd (vin (σ 5 5) 90) (
some (σ 6 (σ 5 5).toNatClampNeg)))

def fX6_fails (σ : Sto) (x1 : Int32) : (Sto × Int32) :=
  un (up σ 5 2 x1) fun σ_1 =>
un (up σ_1 5 3 (σ_1 5 5)) fun σ_2 =>
(σ_2, (0 : Int32))

def fX6_readSign (σ : Sto) (x1 : Int32) : Option (Sto × Int32) :=
  bd (fX6_next σ) fun q_1 =>
if q_1 = x1 then (
un (up σ 5 5 ((σ 5 5) + (1 : Int32))) fun σ_2 =>
some (σ_2, (1 : Int32)))
else (
un (fX6_fails σ (1 : Int32)) fun q_3 =>
gd (isB q_3.2) (
some (q_3.1, q_3.2)))

def fX6_readNumber_L11 (k_79 : Sto → Int32 → Int32 → Int32 → Int32 → Option (Sto × Int32)) : Nat → Sto → Int32 → Int32 → Int32 → Int32 → Int32 → Option (Sto × Int32)
  | 0, _, _, _, _, _, _ => none
  | n + 1, σ, x1, x2, x3, x4, x5 => if (σ 5 1) ≤ x5 then (
k_79 σ x1 x2 x3 x4)
else (
gd (vin x5 90) (
if (σ 6 x5.toNatClampNeg) < (48 : Int32) then (
k_79 σ x1 x2 x3 x4)
else (
if (57 : Int32) < (σ 6 x5.toNatClampNeg) then (
k_79 σ x1 x2 x3 x4)
else (
if (2 : Int32) ≤ x4 then (
un (x4 + (1 : Int32)) fun x_2 =>
un (x5 + (1 : Int32)) fun x_3 =>
fX6_readNumber_L11 k_79 n σ x1 x2 x3 x_2 x_3)
else (
un (((x3 * (10 : Int32)) + (σ 6 x5.toNatClampNeg)) - (48 : Int32)) fun x_4 =>
un (x4 + (1 : Int32)) fun x_5 =>
un (x5 + (1 : Int32)) fun x_6 =>
fX6_readNumber_L11 k_79 n σ x1 x2 x_4 x_5 x_6)))))

def fX6_readNumber_j79 (σ : Sto) (x1 : Int32) (x2 : Int32) (x3 : Int32) (x4 : Int32) : Option (Sto × Int32) :=
  if x4 < (1 : Int32) then (
un (fX6_fails σ (1 : Int32)) fun q_1 =>
some (q_1.1, (-1 : Int32)))
else (
if x4 ≤ (2 : Int32) then (
if x3 < x1 then (
un (fX6_fails σ (2 : Int32)) fun q_2 =>
some (q_2.1, (-1 : Int32)))
else (
if x3 ≤ x2 then (
un (up σ 5 5 ((σ 5 5) + x4)) fun σ_3 =>
some (σ_3, x3))
else (
un (fX6_fails σ (2 : Int32)) fun q_4 =>
some (q_4.1, (-1 : Int32)))))
else (
un (fX6_fails σ (1 : Int32)) fun q_5 =>
some (q_5.1, (-1 : Int32))))

def fX6_readNumber (σ : Sto) (x1 : Int32) (x2 : Int32) : Option (Sto × Int32) :=
  un (σ 5 5) fun x_1 =>
fX6_readNumber_L11 fX6_readNumber_j79 fu σ x1 x2 (0 : Int32) (0 : Int32) x_1

def fX6_readLaw (σ : Sto) : Option (Sto × Int32) :=
  bd (fX6_readSign σ (118 : Int32)) fun q_1 =>
if q_1.2 = (0 : Int32) then (
some (q_1.1, (0 : Int32)))
else (
bd (fX6_readNumber q_1.1 (0 : Int32) (20 : Int32)) fun q_2 =>
un (up q_2.1 44 2 q_2.2) fun σ_3 =>
if (σ_3 44 2) = (-1 : Int32) then (
some (σ_3, (0 : Int32)))
else (
bd (fX6_readSign σ_3 (44 : Int32)) fun q_4 =>
if q_4.2 = (0 : Int32) then (
some (q_4.1, (0 : Int32)))
else (
bd (fX6_readNumber q_4.1 (0 : Int32) (60 : Int32)) fun q_5 =>
un (up q_5.1 44 3 q_5.2) fun σ_6 =>
if (σ_6 44 3) = (-1 : Int32) then (
some (σ_6, (0 : Int32)))
else (
bd (fX6_readSign σ_6 (59 : Int32)) fun q_7 =>
if q_7.2 = (0 : Int32) then (
some (q_7.1, (0 : Int32)))
else (
some (q_7.1, (1 : Int32)))))))

def fX8_addRoom (σ : Sto) (v0 : Nat) (x1 : Int32) : Option Sto :=
  if (10 : Int32) ≤ (σ v0 0) then (
some σ)
else (
gd (vin (σ v0 0) 10) (
un (up σ (v0 + 1) ((σ v0 0).toNatClampNeg) x1) fun σ_2 =>
gd (vin (σ_2 v0 0) 10) (
un (up σ_2 (v0 + 2) ((σ_2 v0 0).toNatClampNeg) (0 : Int32)) fun σ_4 =>
gd (vin (σ_4 v0 0) 10) (
un (up σ_4 (v0 + 3) ((σ_4 v0 0).toNatClampNeg) (0 : Int32)) fun σ_6 =>
un (up σ_6 v0 0 ((σ_6 v0 0) + (1 : Int32))) fun σ_7 =>
some σ_7))))

def fX6_readRoom (σ : Sto) : Option (Sto × Int32) :=
  bd (fX6_readSign σ (114 : Int32)) fun q_1 =>
if q_1.2 = (0 : Int32) then (
some (q_1.1, (0 : Int32)))
else (
bd (fX6_readNumber q_1.1 (0 : Int32) (9 : Int32)) fun q_2 =>
if q_2.2 = (-1 : Int32) then (
some (q_2.1, (0 : Int32)))
else (
bd (fX6_readSign q_2.1 (59 : Int32)) fun q_3 =>
if q_3.2 = (0 : Int32) then (
some (q_3.1, (0 : Int32)))
else (
bd (fX8_addRoom q_3.1 44 q_2.2) fun q_4 =>
some (q_4, (1 : Int32)))))

def fX6_readRooms_L2 (k_32 : Sto → Option (Sto × Int32)) : Nat → Sto → Int32 → Option (Sto × Int32)
  | 0, _, _ => none
  | n + 1, σ, x1 => if (10 : Int32) ≤ x1 then (
k_32 σ)
else (
bd (fX6_next σ) fun q_1 =>
if q_1 = (114 : Int32) then (
bd (fX6_readRoom σ) fun q_2 =>
if q_2.2 = (0 : Int32) then (
some (q_2.1, (0 : Int32)))
else (
un (x1 + (1 : Int32)) fun x_3 =>
fX6_readRooms_L2 k_32 n q_2.1 x_3))
else (
k_32 σ))

def fX6_readRooms_j32 (σ : Sto) : Option (Sto × Int32) :=
  if (3 : Int32) ≤ (σ 44 0) then (
bd (fX6_next σ) fun q_1 =>
if q_1 = (114 : Int32) then (
un (fX6_fails σ (3 : Int32)) fun q_2 =>
if q_2.2 = (0 : Int32) then (
some (q_2.1, (0 : Int32)))
else (
some (q_2.1, (1 : Int32))))
else (
some (σ, (1 : Int32))))
else (
un (fX6_fails σ (1 : Int32)) fun q_3 =>
gd (isB q_3.2) (
some (q_3.1, q_3.2)))

def fX6_readRooms (σ : Sto) : Option (Sto × Int32) :=
  fX6_readRooms_L2 fX6_readRooms_j32 fu σ (0 : Int32)

def fX6_sortOf (x0 : Int32) : Int32 :=
  if x0 = (97 : Int32) then (
(5 : Int32))
else (if x0 = (99 : Int32) then (
(1 : Int32))
else (if x0 = (108 : Int32) then (
(2 : Int32))
else (if x0 = (112 : Int32) then (
(4 : Int32))
else (if x0 = (116 : Int32) then (
(3 : Int32))
else (
(0 : Int32))))))

def fX8_addThing (σ : Sto) (v0 : Nat) (x1 : Int32) (x2 : Int32) (x3 : Int32) : Option Sto :=
  if (6 : Int32) ≤ (σ v0 1) then (
some σ)
else (
gd (vin (σ v0 1) 6) (
un (up σ (v0 + 4) ((σ v0 1).toNatClampNeg) x1) fun σ_2 =>
gd (vin (σ_2 v0 1) 6) (
un (up σ_2 (v0 + 5) ((σ_2 v0 1).toNatClampNeg) x3) fun σ_4 =>
bd (fX8_place σ_4 v0 (σ_4 v0 1) x2) fun q_5 =>
un (up q_5 v0 1 ((q_5 v0 1) + (1 : Int32))) fun σ_6 =>
some σ_6)))

def fX6_readThing (σ : Sto) : Option (Sto × Int32) :=
  bd (fX6_next σ) fun q_1 =>
un (fX6_sortOf q_1) fun x_3 =>
if x_3 = (0 : Int32) then (
un (fX6_fails σ (1 : Int32)) fun q_10 =>
gd (isB q_10.2) (
some (q_10.1, q_10.2)))
else (
un (up σ 5 5 ((σ 5 5) + (1 : Int32))) fun σ_4 =>
bd (fX6_readNumber σ_4 (0 : Int32) ((σ_4 44 0) - (1 : Int32))) fun q_5 =>
if q_5.2 = (-1 : Int32) then (
some (q_5.1, (0 : Int32)))
else (
bd (fX6_readSign q_5.1 (44 : Int32)) fun q_6 =>
if q_6.2 = (0 : Int32) then (
some (q_6.1, (0 : Int32)))
else (
bd (fX6_readNumber q_6.1 (1 : Int32) (9 : Int32)) fun q_7 =>
if q_7.2 = (-1 : Int32) then (
some (q_7.1, (0 : Int32)))
else (
bd (fX6_readSign q_7.1 (59 : Int32)) fun q_8 =>
if q_8.2 = (0 : Int32) then (
some (q_8.1, (0 : Int32)))
else (
bd (fX8_addThing q_8.1 44 x_3 q_5.2 q_7.2) fun q_9 =>
some (q_9, (1 : Int32)))))))

def fX6_readThings_j23 (k_2 : Sto → Int32 → Option (Sto × Int32)) (σ : Sto) (x1 : Int32) : Option (Sto × Int32) :=
  bd (fX6_readThing σ) fun q_1 =>
if q_1.2 = (0 : Int32) then (
some (q_1.1, (0 : Int32)))
else (
un (x1 + (1 : Int32)) fun x_2 =>
k_2 q_1.1 x_2)

def fX6_readThings_L2 (k_38 : Sto → Option (Sto × Int32)) : Nat → Sto → Int32 → Option (Sto × Int32)
  | 0, _, _ => none
  | n + 1, σ, x1 => if (6 : Int32) ≤ x1 then (
k_38 σ)
else (
if x1 = (0 : Int32) then (
fX6_readThings_j23 (fX6_readThings_L2 k_38 n) σ x1)
else (
if (σ 5 1) ≤ (σ 5 5) then (
k_38 σ)
else (
fX6_readThings_j23 (fX6_readThings_L2 k_38 n) σ x1)))

def fX6_readThings_j38 (σ : Sto) : Option (Sto × Int32) :=
  if (σ 5 5) = (σ 5 1) then (
some (σ, (1 : Int32)))
else (
bd (fX6_next σ) fun q_1 =>
if (fX6_sortOf q_1) = (0 : Int32) then (
un (fX6_fails σ (1 : Int32)) fun q_5 =>
gd (isB q_5.2) (
some (q_5.1, q_5.2)))
else (
un (fX6_fails σ (3 : Int32)) fun q_3 =>
gd (isB q_3.2) (
some (q_3.1, q_3.2))))

def fX6_readThings (σ : Sto) : Option (Sto × Int32) :=
  fX6_readThings_L2 fX6_readThings_j38 fu σ (0 : Int32)

def fX6_read (σ : Sto) : Option (Sto × Int32) :=
  un (up σ 5 5 (0 : Int32)) fun σ_1 =>
un (fX8_clear σ_1 44) fun q_2 =>
bd (fX6_readLaw q_2) fun q_3 =>
if q_3.2 = (0 : Int32) then (
un (up q_3.1 5 1 (0 : Int32)) fun σ_4 =>
some (σ_4, (0 : Int32)))
else (
bd (fX6_readRooms q_3.1) fun q_5 =>
if q_5.2 = (0 : Int32) then (
un (up q_5.1 5 1 (0 : Int32)) fun σ_6 =>
some (σ_6, (0 : Int32)))
else (
bd (fX6_readThings q_5.1) fun q_7 =>
if q_7.2 = (0 : Int32) then (
un (up q_7.1 5 1 (0 : Int32)) fun σ_8 =>
some (σ_8, (0 : Int32)))
else (
un (up q_7.1 5 1 (0 : Int32)) fun σ_9 =>
some (σ_9, (1 : Int32)))))

def fX7_cell (x0 : Int32) (x1 : Int32) (x2 : Int32) : Int32 :=
  ((((x0 * (3 : Int32)) + x1) * (6 : Int32)) + x2)

def fX7_followAll_j66 (k_24 : Sto → Int32 → Int32 → Int32 → Int32 → Int32 → Option Sto) (σ : Sto) (x1 : Int32) (x2 : Int32) (x3 : Int32) (x4 : Int32) (x5 : Int32) (y1 : Int32) (y2 : Int32) : Option Sto :=
  gd (vin y1 54) (
un (up σ 24 (y1.toNatClampNeg) (vp_nar .boolean y2)) fun σ_2 =>
un (fX8_carried σ_2 268 x4) fun x_4 =>
un (x5 + (1 : Int32)) fun x_5 =>
k_24 σ_2 x1 x2 x3 x_4 x_5)

def fX7_followAll_L24 (k_84 : Sto → Int32 → Int32 → Int32 → Option Sto) : Nat → Sto → Int32 → Int32 → Int32 → Int32 → Int32 → Option Sto
  | 0, _, _, _, _, _, _ => none
  | n + 1, σ, x1, x2, x3, x4, x5 => if (3 : Int32) ≤ x5 then (
k_84 σ x1 x2 x3)
else (
bd (fX2_placeBehind σ 22 268 x3 x4 x2) fun q_2 =>
if q_2 < (30 : Int32) then (
fX7_followAll_j66 (fX7_followAll_L24 k_84 n) σ x1 x2 x3 x4 x5 (fX7_cell x1 x5 x3) (0 : Int32))
else (
fX7_followAll_j66 (fX7_followAll_L24 k_84 n) σ x1 x2 x3 x4 x5 (fX7_cell x1 x5 x3) (1 : Int32)))

def fX7_followAll_L2 : Nat → Sto → Int32 → Int32 → Int32 → Option Sto
  | 0, _, _, _, _ => none
  | n + 1, σ, x1, x2, x3 => if (σ 21 5) ≤ x3 then (
some σ)
else (
gd (vin x3 6) (
un (σ 274 x3.toNatClampNeg) fun x_2 =>
fX7_followAll_L24 (fun σ_3 z_4 z_5 z_6 =>
un (z_6 + (1 : Int32)) fun x_7 =>
fX7_followAll_L2 n σ_3 z_4 z_5 x_7) fu σ x1 x2 x3 x_2 (0 : Int32)))

def fX7_followAll (σ : Sto) (x1 : Int32) (x2 : Int32) : Option Sto :=
  fX7_followAll_L2 fu σ x1 x2 (0 : Int32)

def fX7_stonesNow_L4 (σ : Sto) : Nat → Int32 → Int32 → Option Int32
  | 0, _, _ => none
  | n + 1, x1, x2 => if (σ 21 5) ≤ x2 then (
some x1)
else (
gd (vin x2 6) (
gd (vin (fX7_cell (σ 21 4) (σ 25 x2.toNatClampNeg) x2) 54) (
if (σ 24 (fX7_cell (σ 21 4) (σ 25 x2.toNatClampNeg) x2).toNatClampNeg) = (0 : Int32) then (
un (x1 + (0 : Int32)) fun x_4 =>
un (x2 + (1 : Int32)) fun x_5 =>
fX7_stonesNow_L4 σ n x_4 x_5)
else (
un (x1 + (1 : Int32)) fun x_6 =>
un (x2 + (1 : Int32)) fun x_7 =>
fX7_stonesNow_L4 σ n x_6 x_7))))

def fX7_stonesNow (σ : Sto) : Option Int32 :=
  fX7_stonesNow_L4 σ fu (0 : Int32) (0 : Int32)

def fX7_auntTurn_L12 (rc : Sto → Int32 → Int32 → Option (Sto × Int32)) : Nat → Sto → Int32 → Int32 → Int32 → Int32 → Option (Sto × Int32)
  | 0, _, _, _, _, _ => none
  | n + 1, σ, x1, x2, x3, x4 => if (σ 21 5) ≤ x4 then (
some (σ, x3))
else (
gd (vin x4 6) (
un (up σ 25 (x4.toNatClampNeg) ((σ 25 x4.toNatClampNeg) + (1 : Int32))) fun σ_2 =>
bd (rc σ_2 (x1 + (1 : Int32)) x2) fun q_3 =>
un (if q_3.2 < x3 then q_3.2 else x3) fun x_4 =>
un (up q_3.1 25 (x4.toNatClampNeg) ((q_3.1 25 x4.toNatClampNeg) - (1 : Int32))) fun σ_5 =>
un (x4 + (1 : Int32)) fun x_6 =>
fX7_auntTurn_L12 rc n σ_5 x1 x2 x_4 x_6))

def fX7_auntTurn (rc : Sto → Int32 → Int32 → Option (Sto × Int32)) (σ : Sto) (x1 : Int32) (x2 : Int32) : Option (Sto × Int32) :=
  bd (rc σ (x1 + (1 : Int32)) x2) fun q_1 =>
fX7_auntTurn_L12 rc fu q_1.1 x1 x2 q_1.2 (0 : Int32)

def fX7_dresserTurn (rc : Sto → Int32 → Int32 → Option (Sto × Int32)) (σ : Sto) (x1 : Int32) (x2 : Int32) : Option (Sto × Int32) :=
  bd (rc σ (x1 + (1 : Int32)) x2) fun q_1 =>
un (up q_1.1 21 4 ((q_1.1 21 4) + (1 : Int32))) fun σ_2 =>
bd (rc σ_2 (x1 + (1 : Int32)) x2) fun q_3 =>
un (up q_3.1 21 4 ((q_3.1 21 4) - (1 : Int32))) fun σ_4 =>
some (σ_4, (if q_1.2 < q_3.2 then q_3.2 else q_1.2))

def fX7_outcome (rc : Sto → Int32 → Int32 → Option (Sto × Int32)) (σ : Sto) (x1 : Int32) (x2 : Int32) : Option (Sto × Int32) :=
  if x1 < x2 then (
if (irm x1 (2 : Int32)) = (0 : Int32) then (
bd (fX7_auntTurn rc σ x1 x2) fun q_2 =>
some (q_2.1, q_2.2))
else (
bd (fX7_dresserTurn rc σ x1 x2) fun q_1 =>
some (q_1.1, q_1.2)))
else (
bd (fX7_stonesNow σ) fun q_3 =>
some (σ, q_3))

def fX7_outcomeD : Nat → Sto → Int32 → Int32 → Option (Sto × Int32)
  | 0, _, _, _ => none
  | n + 1, σ, x1, x2 => fX7_outcome (fX7_outcomeD n) σ x1 x2
def fX7_outcomeR (σ : Sto) (x1 : Int32) (x2 : Int32) : Option (Sto × Int32) := fX7_outcomeD 6 σ x1 x2

def fX7_play_L11 (v1 : Nat) : Nat → Sto → Int32 → Int32 → Int32 → Option (Sto × Int32)
  | 0, _, _, _, _ => none
  | n + 1, σ, x2, x3, x4 => if (3 : Int32) ≤ x4 then (
bd (fX7_outcomeR σ (0 : Int32) (if (4 : Int32) < x2 then (4 : Int32) else x2)) fun q_1 =>
some (q_1.1, q_1.2))
else (
un (fX8_become σ 268 v1) fun q_2 =>
un (up q_2 268 2 (if ((q_2 v1 2) + ((3 : Int32) * x4)) < (20 : Int32) then ((q_2 v1 2) + ((3 : Int32) * x4)) else (20 : Int32))) fun σ_3 =>
bd (fX2_tell σ_3 22 268 x3) fun q_4 =>
bd (fX7_followAll q_4 x4 x3) fun q_5 =>
un (x4 + (1 : Int32)) fun x_6 =>
fX7_play_L11 v1 n q_5 x2 x3 x_6)

def fX7_play (σ : Sto) (v1 : Nat) (x2 : Int32) (x3 : Int32) : Option (Sto × Int32) :=
  un (up σ 21 5 (σ v1 1)) fun σ_1 =>
fX7_play_L11 v1 fu σ_1 x2 x3 (0 : Int32)

def fX8_allLava_L4 (v0 : Nat) (σ : Sto) : Nat → Int32 → Int32 → Option Int32
  | 0, _, _ => none
  | n + 1, x1, x2 => if (σ v0 0) ≤ x2 then (
some x1)
else (
gd (vin x2 10) (
un (x1 + (σ (v0 + 2) x2.toNatClampNeg)) fun x_2 =>
un (x2 + (1 : Int32)) fun x_3 =>
fX8_allLava_L4 v0 σ n x_2 x_3))

def fX8_allLava (σ : Sto) (v0 : Nat) : Option Int32 :=
  fX8_allLava_L4 v0 σ fu (0 : Int32) (0 : Int32)

def fX9_within (x0 : Int32) (x1 : Int32) (x2 : Int32) : Int32 :=
  if x0 < x1 then (
(0 : Int32))
else (
if x2 < x0 then (
(0 : Int32))
else (
(1 : Int32)))

def fX9_found (σ : Sto) (x1 : Int32) : (Sto × Int32) :=
  un (up σ 0 9 x1) fun σ_1 =>
(σ_1, ((-1000010 : Int32) - x1))

def fX9_unfound (σ : Sto) (x1 : Int32) : (Sto × Int32) :=
  un (up σ 0 9 (0 : Int32)) fun σ_1 =>
(σ_1, x1)

def fX9_row (σ : Sto) (x1 : Int32) (x2 : Int32) (x3 : Int32) : Option (Sto × Int32) :=
  if (fX4_isNumber x1) = (0 : Int32) then (
some (σ, (-1000001 : Int32)))
else (
if (fX9_within x2 (0 : Int32) (2 : Int32)) = (0 : Int32) then (
some (σ, (-1000001 : Int32)))
else (
if x3 ≤ (40 : Int32) then (
if (0 : Int32) ≤ x3 then (
bd (fX4_make σ x1 x2 x3) fun q_3 =>
un (fX9_unfound q_3 x3) fun q_4 =>
some (q_4.1, q_4.2))
else (
un (fX9_found σ (4 : Int32)) fun q_5 =>
some (q_5.1, q_5.2)))
else (
some (σ, (-1000001 : Int32)))))

def fX9_set (σ : Sto) (x1 : Int32) (x2 : Int32) (x3 : Int32) : Option (Sto × Int32) :=
  if (fX4_isNumber x1) = (0 : Int32) then (
some (σ, (-1000001 : Int32)))
else (
bd (fX4_findingAt σ x1 x2 (1 : Int32)) fun q_2 =>
if q_2 = (0 : Int32) then (
bd (fX4_put σ x1 x2 x3) fun q_3 =>
un (fX9_unfound q_3.1 q_3.2) fun q_4 =>
some (q_4.1, q_4.2))
else (
un (fX9_found σ q_2) fun q_5 =>
some (q_5.1, q_5.2)))

def fX9_copy (σ : Sto) (x1 : Int32) (x2 : Int32) (x3 : Int32) (x4 : Int32) (x5 : Int32) : Option (Sto × Int32) :=
  if (fX4_isNumber x1) = (0 : Int32) then (
some (σ, (-1000001 : Int32)))
else (
if (fX4_isNumber x3) = (0 : Int32) then (
some (σ, (-1000001 : Int32)))
else (
bd (fX4_findingBetween σ x1 x2 x3 x4 x5) fun q_3 =>
if q_3 = (0 : Int32) then (
bd (fX4_move σ x1 x2 x3 x4 x5) fun q_4 =>
un (fX9_unfound q_4 x5) fun q_5 =>
some (q_5.1, q_5.2))
else (
un (fX9_found σ q_3) fun q_6 =>
some (q_6.1, q_6.2))))

def fX9_drop (σ : Sto) (x1 : Int32) : Option (Sto × Int32) :=
  if (fX4_isNumber x1) = (0 : Int32) then (
some (σ, (-1000001 : Int32)))
else (
bd (fX4_isMissing σ x1) fun q_2 =>
if q_2 = (0 : Int32) then (
bd (fX4_lose σ x1) fun q_3 =>
un (fX9_unfound q_3.1 q_3.2) fun q_4 =>
some (q_4.1, q_4.2))
else (
un (fX9_found σ (1 : Int32)) fun q_5 =>
some (q_5.1, q_5.2)))

def fX9_feed (σ : Sto) (x1 : Int32) : Option (Sto × Int32) :=
  if (fX9_within x1 (0 : Int32) (255 : Int32)) = (0 : Int32) then (
some (σ, (-1000001 : Int32)))
else (
bd (fX6_takeByte σ x1) fun q_2 =>
if q_2.2 = (0 : Int32) then (
some (q_2.1, (-1000003 : Int32)))
else (
some (q_2.1, (q_2.1 5 1))))

def fX9_street (σ : Sto) : Option (Sto × Int32) :=
  bd (fX6_read σ) fun q_1 =>
if q_1.2 = (0 : Int32) then (
some (q_1.1, ((-1000100 : Int32) - (q_1.1 5 3))))
else (
un (fX8_become q_1.1 36 44) fun q_2 =>
un (fX3_forget q_2) fun q_3 =>
some (q_3, (q_3 36 1)))

def fX9_fault (σ : Sto) : Int32 :=
  (σ 5 2)

def fX9_undo (σ : Sto) : Option (Sto × Int32) :=
  bd (fX3_goBack σ 36) fun q_1 =>
if q_1.2 = (0 : Int32) then (
some (q_1.1, (-1000002 : Int32)))
else (
some (q_1.1, (q_1.1 7 0)))

def fX9_isStreet (σ : Sto) : Int32 :=
  if (σ 36 0) ≤ (0 : Int32) then (
(0 : Int32))
else (
(1 : Int32))

def fX9_days_L43 : Nat → Sto → Int32 → Int32 → Option (Sto × Int32)
  | 0, _, _, _ => none
  | n + 1, σ, x1, x2 => if x1 ≤ x2 then (
bd (fX8_stones σ 36) fun q_1 =>
some (σ, q_1))
else (
bd (fX3_keep σ 36) fun q_2 =>
bd (fX8_pass q_2 36) fun q_3 =>
un (x2 + (1 : Int32)) fun x_4 =>
fX9_days_L43 n q_3 x1 x_4)

def fX9_days (σ : Sto) (x1 : Int32) : Option (Sto × Int32) :=
  if (fX9_isStreet σ) = (0 : Int32) then (
some (σ, (-1000002 : Int32)))
else (
if (fX9_within x1 (1 : Int32) (24 : Int32)) = (0 : Int32) then (
some (σ, (-1000001 : Int32)))
else (
if ((σ 36 4) + x1) ≤ (999 : Int32) then (
fX9_days_L43 fu σ x1 (0 : Int32))
else (
some (σ, (-1000003 : Int32)))))

def fX9_isRoom (σ : Sto) (x1 : Int32) : Int32 :=
  if x1 < (0 : Int32) then (
(0 : Int32))
else (
if (σ 36 0) ≤ x1 then (
(0 : Int32))
else (
(1 : Int32)))

def fX9_wall (σ : Sto) (x1 : Int32) (x2 : Int32) : Option (Sto × Int32) :=
  if (fX9_isRoom σ x1) = (0 : Int32) then (
some (σ, (-1000001 : Int32)))
else (
if (fX9_within x2 (0 : Int32) (9 : Int32)) = (0 : Int32) then (
some (σ, (-1000001 : Int32)))
else (
gd (vin x1 10) (
un (σ 39 x1.toNatClampNeg) fun x_4 =>
bd (fX3_keep σ 36) fun q_5 =>
un (up q_5 39 (x1.toNatClampNeg) x2) fun σ_6 =>
some (σ_6, x_4))))

def fX9_isThing (σ : Sto) (x1 : Int32) : Int32 :=
  if x1 < (0 : Int32) then (
(0 : Int32))
else (
if (σ 36 1) ≤ x1 then (
(0 : Int32))
else (
(1 : Int32)))

def fX9_carry (σ : Sto) (x1 : Int32) : Option (Sto × Int32) :=
  if (fX9_isThing σ x1) = (0 : Int32) then (
some (σ, (-1000001 : Int32)))
else (
bd (fX8_stands σ 36 x1) fun q_2 =>
if q_2 = (0 : Int32) then (
some (σ, (-1000002 : Int32)))
else (
bd (fX3_keep σ 36) fun q_3 =>
gd (vin x1 6) (
bd (fX8_place q_3 36 x1 (fX8_carried q_3 36 (q_3 42 x1.toNatClampNeg))) fun q_6 =>
some (q_6, (q_6 42 x1.toNatClampNeg)))))

def fX9_feeding (σ : Sto) (x1 : Int32) : Option (Sto × Int32) :=
  if (fX9_isStreet σ) = (0 : Int32) then (
some (σ, (-1000002 : Int32)))
else (
if (fX9_within x1 (0 : Int32) (20 : Int32)) = (0 : Int32) then (
some (σ, (-1000001 : Int32)))
else (
un (σ 36 2) fun x_3 =>
bd (fX3_keep σ 36) fun q_4 =>
un (up q_4 36 2 x1) fun σ_5 =>
some (σ_5, x_3)))

def fX9_dig (σ : Sto) (x1 : Int32) : Option (Sto × Int32) :=
  if (fX9_isThing σ x1) = (0 : Int32) then (
some (σ, (-1000001 : Int32)))
else (
gd (vin x1 6) (
if (30 : Int32) ≤ (σ 42 x1.toNatClampNeg) then (
bd (fX3_keep σ 36) fun q_3 =>
bd (fX8_place q_3 36 x1 (20 : Int32)) fun q_4 =>
bd (fX8_stones q_4 36) fun q_5 =>
some (q_4, q_5))
else (
some (σ, (-1000002 : Int32)))))

def fX9_thing (σ : Sto) (x1 : Int32) (x2 : Int32) : Option Int32 :=
  if (fX9_isThing σ x1) = (0 : Int32) then (
some (-1000001 : Int32))
else (
if x2 = (0 : Int32) then (
gd (vin x1 6) (
some (σ 41 x1.toNatClampNeg)))
else (if x2 = (1 : Int32) then (
gd (vin x1 6) (
some (σ 42 x1.toNatClampNeg)))
else (if x2 = (2 : Int32) then (
gd (vin x1 6) (
if (σ 42 x1.toNatClampNeg) = (20 : Int32) then (
some (0 : Int32))
else (
gd (vin (σ 43 x1.toNatClampNeg) 10) (
some (σ 38 (σ 43 x1.toNatClampNeg).toNatClampNeg)))))
else (
some (-1000001 : Int32)))))

def fX9_roomOf (σ : Sto) (x1 : Int32) (x2 : Int32) : Option Int32 :=
  if (fX9_isRoom σ x1) = (0 : Int32) then (
some (-1000001 : Int32))
else (
if x2 = (0 : Int32) then (
gd (vin x1 10) (
some (σ 37 x1.toNatClampNeg)))
else (if x2 = (1 : Int32) then (
gd (vin x1 10) (
some (σ 38 x1.toNatClampNeg)))
else (if x2 = (2 : Int32) then (
gd (vin x1 10) (
some (σ 39 x1.toNatClampNeg)))
else (if x2 = (3 : Int32) then (
bd (fX8_allAt σ 36 x1) fun q_9 =>
some q_9)
else (if x2 = (4 : Int32) then (
bd (fX8_allAt σ 36 ((30 : Int32) + x1)) fun q_11 =>
some q_11)
else (
some (-1000001 : Int32)))))))

def fX9_stand (σ : Sto) (x1 : Int32) : Option Int32 :=
  if (fX9_isStreet σ) = (0 : Int32) then (
some (-1000002 : Int32))
else (
if x1 = (0 : Int32) then (
some (σ 36 0))
else (if x1 = (1 : Int32) then (
some (σ 36 2))
else (if x1 = (2 : Int32) then (
some (σ 36 3))
else (if x1 = (3 : Int32) then (
bd (fX8_standing σ 36) fun q_6 =>
some q_6)
else (if x1 = (4 : Int32) then (
bd (fX8_stones σ 36) fun q_8 =>
some q_8)
else (if x1 = (5 : Int32) then (
bd (fX8_allAt σ 36 (20 : Int32)) fun q_10 =>
some q_10)
else (
some (-1000001 : Int32))))))))

def fX9_ahead (σ : Sto) (x1 : Int32) (x2 : Int32) : Option (Sto × Int32) :=
  if (fX9_isThing σ x1) = (0 : Int32) then (
some (σ, (-1000001 : Int32)))
else (
if (fX9_within x2 (0 : Int32) (60 : Int32)) = (0 : Int32) then (
some (σ, (-1000001 : Int32)))
else (
bd (fX5_placeBehind σ 36 x1 x2) fun q_3 =>
some (q_3.1, q_3.2)))

def fX9_lava (σ : Sto) (x1 : Int32) (x2 : Int32) : Option (Sto × Int32) :=
  if (fX9_isRoom σ x1) = (0 : Int32) then (
some (σ, (-1000001 : Int32)))
else (
if (fX9_within x2 (0 : Int32) (60 : Int32)) = (0 : Int32) then (
some (σ, (-1000001 : Int32)))
else (
bd (fX5_lavaBehind σ 36 x1 x2) fun q_3 =>
some (q_3.1, q_3.2)))

def fX9_kept (σ : Sto) (x1 : Int32) (x2 : Int32) : Option (Sto × Int32) :=
  if (fX9_isStreet σ) = (0 : Int32) then (
some (σ, (-1000002 : Int32)))
else (
if (fX9_within x1 (0 : Int32) (60 : Int32)) = (0 : Int32) then (
some (σ, (-1000001 : Int32)))
else (
if (fX9_within x2 (0 : Int32) (1 : Int32)) = (0 : Int32) then (
some (σ, (-1000001 : Int32)))
else (
if x2 = (0 : Int32) then (
bd (fX5_stonesBehind σ 36 x1) fun q_5 =>
some (q_5.1, q_5.2))
else (
bd (fX5_outsBehind σ 36 x1) fun q_4 =>
some (q_4.1, q_4.2)))))

def fX9_when (σ : Sto) (x1 : Int32) (x2 : Int32) : Option (Sto × Int32) :=
  if (fX9_isThing σ x1) = (0 : Int32) then (
some (σ, (-1000001 : Int32)))
else (
if (fX9_within x2 (0 : Int32) (2 : Int32)) = (0 : Int32) then (
some (σ, (-1000001 : Int32)))
else (
bd (fX5_firstDay σ 36 x1 x2) fun q_3 =>
some (q_3.1, q_3.2)))

def fX9_front (σ : Sto) (x1 : Int32) : Option (Sto × Int32) :=
  if (fX9_isStreet σ) = (0 : Int32) then (
some (σ, (-1000002 : Int32)))
else (
if (fX9_within x1 (0 : Int32) (60 : Int32)) = (0 : Int32) then (
some (σ, (-1000001 : Int32)))
else (
bd (fX5_frontBehind σ 36 x1) fun q_3 =>
some (q_3.1, q_3.2)))

def fX9_carries (σ : Sto) (x1 : Int32) (x2 : Int32) (x3 : Int32) : Option (Sto × Int32) :=
  if (fX9_isStreet σ) = (0 : Int32) then (
some (σ, (-1000002 : Int32)))
else (
if (fX9_within x1 (1 : Int32) (4 : Int32)) = (0 : Int32) then (
some (σ, (-1000001 : Int32)))
else (
if (fX9_within x2 (0 : Int32) (20 : Int32)) = (0 : Int32) then (
some (σ, (-1000001 : Int32)))
else (
if (-1 : Int32) ≤ x3 then (
bd (fX1_search σ 36 x1 x2) fun q_4 =>
if x3 = (-1 : Int32) then (
some (q_4, (q_4 14 0)))
else (
bd (fX1_choiceAt q_4 x3) fun q_5 =>
some (q_4, q_5)))
else (
some (σ, (-1000001 : Int32))))))

def fX9_dam (σ : Sto) (x1 : Int32) (x2 : Int32) (x3 : Int32) : Option (Sto × Int32) :=
  if (fX9_isStreet σ) = (0 : Int32) then (
some (σ, (-1000002 : Int32)))
else (
if (fX9_within x1 (1 : Int32) (9 : Int32)) = (0 : Int32) then (
some (σ, (-1000001 : Int32)))
else (
if (fX9_within x2 (1 : Int32) (40 : Int32)) = (0 : Int32) then (
some (σ, (-1000001 : Int32)))
else (
if (fX9_within x3 (0 : Int32) (1 : Int32)) = (0 : Int32) then (
some (σ, (-1000001 : Int32)))
else (
bd (fX5_bestDam σ 36 x1 x2) fun q_5 =>
if x3 = (0 : Int32) then (
some (q_5.1, q_5.2))
else (
bd (fX5_stonesWithDam q_5.1 36 q_5.2 x1 x2) fun q_6 =>
some (q_6.1, q_6.2))))))

def fX9_hold (σ : Sto) (x1 : Int32) (x2 : Int32) (x3 : Int32) : Option (Sto × Int32) :=
  if (fX9_isRoom σ x1) = (0 : Int32) then (
some (σ, (-1000001 : Int32)))
else (
if (fX9_isRoom σ x2) = (0 : Int32) then (
some (σ, (-1000001 : Int32)))
else (
if (fX9_within x3 (1 : Int32) (40 : Int32)) = (0 : Int32) then (
some (σ, (-1000001 : Int32)))
else (
bd (fX5_leastWall σ 36 x1 x2 x3) fun q_4 =>
some (q_4.1, q_4.2))))

def fX9_spare (σ : Sto) (x1 : Int32) : Option (Sto × Int32) :=
  if (fX9_isStreet σ) = (0 : Int32) then (
some (σ, (-1000002 : Int32)))
else (
if (fX9_within x1 (1 : Int32) (40 : Int32)) = (0 : Int32) then (
some (σ, (-1000001 : Int32)))
else (
bd (fX5_mostFeed σ 36 x1) fun q_3 =>
some (q_3.1, q_3.2)))

def fX9_sets (σ : Sto) (x1 : Int32) (x2 : Int32) : Option Int32 :=
  if (fX9_isStreet σ) = (0 : Int32) then (
some (-1000002 : Int32))
else (
if (fX9_within x1 (0 : Int32) (54 : Int32)) = (0 : Int32) then (
some (-1000001 : Int32))
else (
if (fX9_within x2 (0 : Int32) (2 : Int32)) = (0 : Int32) then (
some (-1000001 : Int32))
else (
bd (fX5_setsSoHigh σ 36 x1 x2) fun q_4 =>
some q_4)))

def fX9_share (σ : Sto) (x1 : Int32) (x2 : Int32) : Option Int32 :=
  if (fX9_isThing σ x1) = (0 : Int32) then (
some (-1000001 : Int32))
else (
if (fX9_within x2 (0 : Int32) (999 : Int32)) = (0 : Int32) then (
some (-1000001 : Int32))
else (
bd (fX5_partOf σ 36 x1 x2) fun q_3 =>
some q_3))

def fX9_byTurns (σ : Sto) (x1 : Int32) (x2 : Int32) : Option (Sto × Int32) :=
  if (fX9_isStreet σ) = (0 : Int32) then (
some (σ, (-1000002 : Int32)))
else (
if (fX9_within x1 (0 : Int32) (4 : Int32)) = (0 : Int32) then (
some (σ, (-1000001 : Int32)))
else (
if (fX9_within x2 (1 : Int32) (20 : Int32)) = (0 : Int32) then (
some (σ, (-1000001 : Int32)))
else (
bd (fX7_play σ 36 x1 x2) fun q_4 =>
some (q_4.1, q_4.2))))

def fX9_who (σ : Sto) (x1 : Int32) (x2 : Int32) (x3 : Int32) (x4 : Int32) (x5 : Int32) : Option (Sto × Int32) :=
  if (fX9_isThing σ x1) = (0 : Int32) then (
some (σ, (-1000001 : Int32)))
else (
if (fX9_within x2 (0 : Int32) (2 : Int32)) = (0 : Int32) then (
some (σ, (-1000001 : Int32)))
else (
if (fX4_isNumber x3) = (0 : Int32) then (
some (σ, (-1000001 : Int32)))
else (
if (fX9_within x5 (1 : Int32) (12 : Int32)) = (0 : Int32) then (
some (σ, (-1000001 : Int32)))
else (
bd (fX8_stands σ 36 x1) fun q_5 =>
if q_5 = (0 : Int32) then (
some (σ, (-1000002 : Int32)))
else (
bd (fX4_findingAt σ x3 x4 x5) fun q_6 =>
if q_6 = (0 : Int32) then (
bd (fX5_hear σ x3 x4 x5) fun q_7 =>
if x2 = (0 : Int32) then (
bd (fX5_kindsThatFit q_7 36 x1) fun q_9 =>
un (fX9_unfound q_9.1 q_9.2) fun q_10 =>
some (q_10.1, q_10.2))
else (if x2 = (1 : Int32) then (
bd (fX5_highsThatFit q_7 36 x1) fun q_12 =>
un (fX9_unfound q_12.1 q_12.2) fun q_13 =>
some (q_13.1, q_13.2))
else (
bd (fX5_roomsThatFit q_7 36 x1) fun q_14 =>
un (fX9_unfound q_14.1 q_14.2) fun q_15 =>
some (q_15.1, q_15.2))))
else (
un (fX9_found σ q_6) fun q_16 =>
some (q_16.1, q_16.2)))))))

def fX9_feeds (σ : Sto) (x1 : Int32) (x2 : Int32) (x3 : Int32) (x4 : Int32) (x5 : Int32) : Option (Sto × Int32) :=
  if (fX9_isRoom σ x1) = (0 : Int32) then (
some (σ, (-1000001 : Int32)))
else (
if (fX9_within x2 (0 : Int32) (2 : Int32)) = (0 : Int32) then (
some (σ, (-1000001 : Int32)))
else (
if (fX4_isNumber x3) = (0 : Int32) then (
some (σ, (-1000001 : Int32)))
else (
if (fX9_within x5 (1 : Int32) (12 : Int32)) = (0 : Int32) then (
some (σ, (-1000001 : Int32)))
else (
bd (fX4_findingAt σ x3 x4 x5) fun q_5 =>
if q_5 = (0 : Int32) then (
bd (fX5_hear σ x3 x4 x5) fun q_6 =>
if x2 = (0 : Int32) then (
bd (fX5_floorsThatFit q_6 36 x1) fun q_13 =>
un (fX9_unfound q_13.1 q_13.2) fun q_14 =>
some (q_14.1, q_14.2))
else (
bd (fX5_feedsThatFit q_6 36 x1) fun q_7 =>
if x2 = (1 : Int32) then (
un (fX9_unfound q_7.1 (fJ6_bitCount_0f7a4 q_7.2)) fun q_12 =>
some (q_12.1, q_12.2))
else (
if q_7.2 = (0 : Int32) then (
un (fX9_unfound q_7.1 (-1000000 : Int32)) fun q_10 =>
some (q_10.1, q_10.2))
else (
un (fX9_unfound q_7.1 (fJ6_numberOfTrailingZeros_0f7a4 q_7.2)) fun q_9 =>
some (q_9.1, q_9.2)))))
else (
un (fX9_found σ q_5) fun q_15 =>
some (q_15.1, q_15.2))))))

def fX9_gives (σ : Sto) (x1 : Int32) (x2 : Int32) (x3 : Int32) (x4 : Int32) : Option (Sto × Int64) :=
  if (fX9_isThing σ x1) = (0 : Int32) then (
some (σ, (-1000001 : Int64)))
else (
if (fX9_within x2 (0 : Int32) (40 : Int32)) = (0 : Int32) then (
some (σ, (-1000001 : Int64)))
else (
if (fX9_within x3 (0 : Int32) (10 : Int32)) = (0 : Int32) then (
some (σ, (-1000001 : Int64)))
else (
if (fX9_within x4 (0 : Int32) (1 : Int32)) = (0 : Int32) then (
some (σ, (-1000001 : Int64)))
else (
bd (fX5_likelySpared σ 36 x1 x2 x3 x4) fun q_5 =>
some (q_5.1, q_5.2)))))

def fX9_drawn (σ : Sto) (x1 : Int32) (x2 : Int32) (x3 : Int32) : Option (Sto × Int32) :=
  if (fX9_isStreet σ) = (0 : Int32) then (
some (σ, (-1000002 : Int32)))
else (
if (fX9_within x1 (0 : Int32) (60 : Int32)) = (0 : Int32) then (
some (σ, (-1000001 : Int32)))
else (
if (fX9_within x2 (1 : Int32) (999999 : Int32)) = (0 : Int32) then (
some (σ, (-1000001 : Int32)))
else (
if (fX9_within x3 (0 : Int32) (1 : Int32)) = (0 : Int32) then (
some (σ, (-1000001 : Int32)))
else (
bd (fX5_becameInYears σ 36 x1 x2 x3) fun q_5 =>
some (q_5.1, q_5.2)))))

def fX9_image (σ : Sto) (x1 : Int32) : Option (Sto × Int32) :=
  if (fX9_within x1 (0 : Int32) (1 : Int32)) = (0 : Int32) then (
some (σ, (-1000001 : Int32)))
else (
if (fX9_isStreet σ) = (0 : Int32) then (
some (σ, (-1000002 : Int32)))
else (
gd (vin x1 2) (
un (fX8_become σ (imV x1.toNatClampNeg) 36) fun q_4 =>
some (q_4, (1 : Int32)))))

def fX9_restore (σ : Sto) (x1 : Int32) : Option (Sto × Int32) :=
  if (fX9_within x1 (0 : Int32) (1 : Int32)) = (0 : Int32) then (
some (σ, (-1000001 : Int32)))
else (
gd (vin x1 2) (
if (σ (imV x1.toNatClampNeg) 0) = (0 : Int32) then (
some (σ, (-1000002 : Int32)))
else (
un (fX8_become σ 36 (imV x1.toNatClampNeg)) fun q_3 =>
un (fX3_forget q_3) fun q_4 =>
some (q_4, (1 : Int32)))))

def fX9_kind (σ : Sto) (x1 : Int32) : Option Int32 :=
  if (fX9_isThing σ x1) = (0 : Int32) then (
some (-1000001 : Int32))
else (
gd (vin x1 6) (
some (σ 40 x1.toNatClampNeg)))

def fX9_isOfKind_L4 (σ : Sto) : Nat → Int32 → Int32 → Int32 → Option Int32
  | 0, _, _, _ => none
  | n + 1, x1, x2, x3 => if (6 : Int32) ≤ x3 then (
some (0 : Int32))
else (
if x2 < (0 : Int32) then (
some (0 : Int32))
else (
if x2 = x1 then (
some (1 : Int32))
else (
gd (vin x2 6) (
un (tbl_0.getD x2.toNatClampNeg 0) fun x_2 =>
un (x3 + (1 : Int32)) fun x_3 =>
fX9_isOfKind_L4 σ n x1 x_2 x_3))))

def fX9_isOfKind (σ : Sto) (x0 : Int32) (x1 : Int32) : Option Int32 :=
  fX9_isOfKind_L4 σ fu x1 x0 (0 : Int32)

def fX9_as (σ : Sto) (x1 : Int32) (x2 : Int32) : Option (Sto × Int32) :=
  if (fX9_isThing σ x1) = (0 : Int32) then (
some (σ, (-1000001 : Int32)))
else (
if (fX9_within x2 (0 : Int32) (5 : Int32)) = (0 : Int32) then (
some (σ, (-1000001 : Int32)))
else (
gd (vin x1 6) (
bd (fX9_isOfKind σ (σ 40 x1.toNatClampNeg) x2) fun q_4 =>
if q_4 = (0 : Int32) then (
un (fX9_found σ (3 : Int32)) fun q_5 =>
some (q_5.1, q_5.2))
else (
un (fX9_unfound σ x1) fun q_6 =>
some (q_6.1, q_6.2)))))

def fX9_ask (σ : Sto) (x1 : Int32) (x2 : Int32) : Option (Sto × Int32) :=
  if (fX9_isThing σ x1) = (0 : Int32) then (
some (σ, (-1000001 : Int32)))
else (
if (fX9_within x2 (0 : Int32) (1 : Int32)) = (0 : Int32) then (
some (σ, (-1000001 : Int32)))
else (
bd (fX0_answer σ 36 x1 x2) fun q_3 =>
some (q_3.1, q_3.2)))

def fX9_trace (σ : Sto) (x1 : Int32) : Option Int32 :=
  if x1 < (0 : Int32) then (
some (-1000000 : Int32))
else (
if (σ 26 0) ≤ x1 then (
some (-1000000 : Int32))
else (
gd (vin x1 16) (
some (σ 27 x1.toNatClampNeg))))

def fX9_count (σ : Sto) (x1 : Int32) : Option Int32 :=
  if x1 = (0 : Int32) then (
bd (fX4_present σ) fun q_2 =>
some q_2)
else (if x1 = (1 : Int32) then (
some (σ 36 1))
else (if x1 = (2 : Int32) then (
some (σ 36 0))
else (if x1 = (3 : Int32) then (
some (σ 36 4))
else (if x1 = (4 : Int32) then (
bd (fX8_allLava σ 36) fun q_7 =>
some q_7)
else (if x1 = (5 : Int32) then (
bd (fX8_stones σ 36) fun q_9 =>
some (fJ6_bitCount_0f7a4 q_9))
else (if x1 = (6 : Int32) then (
bd (fX8_allAt σ 36 (20 : Int32)) fun q_12 =>
some (fJ6_bitCount_0f7a4 q_12))
else (if x1 = (7 : Int32) then (
some (σ 7 0))
else (if x1 = (8 : Int32) then (
some (σ 5 1))
else (
some (-1000001 : Int32))))))))))

def fX9_status (σ : Sto) : Int32 :=
  (σ 0 9)
