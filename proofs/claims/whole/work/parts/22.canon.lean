/-! ===== what both sides do, as functions ===== -/
/-- the sea, as the class keeps it, and as the reference keeps it -/
def sC (M : am_M) : am_M := fun r j => match r with
  | 0 => M 3 j
  | 1 => M 4 j
  | 2 => M 5 j
  | 3 => M 6 j
  | 4 => M 7 j
  | 5 => M 8 j
  | 6 => M 9 j
  | 7 => M 10 j
  | 8 => M 11 j
  | 9 => M 12 j
  | 10 => M 13 j
  | 11 => M 14 j
  | 12 => if M 14 j = 0 then 0 else M 15 j
  | 13 => if M 14 j = 0 then 0 else M 16 j
  | _ => 0
def sR (M : am_M) : am_M := fun r j => match r with
  | 0 => M 121 j
  | 1 => M 122 j
  | 2 => M 123 j
  | 3 => M 124 j
  | 4 => M 125 j
  | 5 => M 126 j
  | 6 => M 127 j
  | 7 => M 128 j
  | 8 => M 129 j
  | 9 => M 131 j
  | 10 => M 132 j
  | 11 => M 135 j
  | 12 => if M 135 j = 0 then 0 else M 133 j
  | 13 => if M 135 j = 0 then 0 else M 134 j
  | _ => 0
def c_wd (E : am_M) (a b m : Nat) : Int32 := if E 11 (m % 48) = 0 then E a (m % 12) else E b (m % 48)
def c_fl (k w : Int32) : Int32 := if k = 0 then 0 else if k = 1 then w else if k = 2 then w / 2 else 2 * w
abbrev c_ic (x y : Int) : Prop := (0 ≤ x ∧ x < 10) ∧ 0 ≤ y ∧ y < 6
/-- the way of parts: 0 = ends in water at a cell, 1 = lost, 2 = lands at a cell -/
def c_pth (W : Nat → Int32) (dx dy : Int) : Nat → Nat → Int → Int → Nat × Nat
  | 0, 0, x, y => (0, (6 * x + y).toNat)
  | 0, b + 1, x, y => if c_ic x (y + dy) then (if W (6 * x + (y + dy)).toNat = 1 then (2, (6 * x + (y + dy)).toNat) else if W (6 * x + (y + dy)).toNat = 2 then (0, (6 * x + y).toNat) else c_pth W dx dy 0 b x (y + dy)) else (1, 0)
  | a + 1, b, x, y => if c_ic (x + dx) y then (if W (6 * (x + dx) + y).toNat = 1 then (2, (6 * (x + dx) + y).toNat) else if W (6 * (x + dx) + y).toNat = 2 then (0, (6 * x + y).toNat) else c_pth W dx dy a b (x + dx) y) else (1, 0)
def c_ap (o : Nat × Nat) (n : Int32) (st : am_M) : am_M := if o.1 = 1 then am_up st 0 13 (st 0 13 + n) else if o.1 = 2 then am_up st 3 o.2 (st 3 o.2 + n) else am_up st 2 o.2 (st 2 o.2 + n)
def c_sg (e : Int32) : Int := if e.toInt < 0 then -1 else 1
def c_sd (E : am_M) (p : Nat) (e n : Int32) (many : Int32) (st : am_M) : am_M := c_ap (c_pth (E 0) (c_sg e) (c_sg n) e.toInt.natAbs n.toInt.natAbs ((p / 6 : Nat) : Int) ((p % 6 : Nat) : Int)) many st
def c_k (E : am_M) (m p : Nat) : Nat := 12 * (E 1 p).toNatClampNeg + m % 12
def c_gf (E : am_M) (sh : Nat → Int32) (kind : Int32) (m p : Nat) (w : Int32) (st : am_M) : am_M :=
  c_sd E p ((E 5 (c_k E m p) + E 6 (c_k E m p)) / 2 + (c_fl kind (c_wd E 9 12 m) + sh (E 1 p).toNatClampNeg)) ((E 7 (c_k E m p) + E 8 (c_k E m p)) / 2 + c_fl kind (c_wd E 10 13 m)) (w - 2 * (w / 4))
    (c_sd E p (E 6 (c_k E m p) + (c_fl kind (c_wd E 9 12 m) + sh (E 1 p).toNatClampNeg)) (E 8 (c_k E m p) + c_fl kind (c_wd E 10 13 m)) (w / 4)
      (c_sd E p (E 5 (c_k E m p) + (c_fl kind (c_wd E 9 12 m) + sh (E 1 p).toNatClampNeg)) (E 7 (c_k E m p) + c_fl kind (c_wd E 10 13 m)) (w / 4) st))
abbrev c_icy (E : am_M) (m p : Nat) : Prop := (E 4 p >>> (nI (m % 12) &&& 31)) &&& 1 = 1
def c_go (E : am_M) (sh : Nat → Int32) (kind : Int32) (m : Nat) (p : Nat) (st : am_M) : am_M :=
  if st 1 p = 0 then st else if c_icy E m p then am_up st 2 p (st 2 p + st 1 p) else c_gf E sh kind m p (st 1 p) st
def c_z : Nat → Int32 := fun _ => 0
def c_wa (st : am_M) : am_M := am_upR st 1 (fun j => if j < 60 then st 2 j else st 1 j)
def c_gw (E : am_M) (sh : Nat → Int32) (kind : Int32) (m : Nat) (st : am_M) : am_M :=
  c_wa (itr (c_go E sh kind m) 60 (am_upR st 2 c_z))
def c_sk (kind sinks : Int32) (t : Nat) (st : am_M) : am_M :=
  if kind = 2 ∧ sinks.toInt ≤ t then am_upR (am_up st 0 14 (st 0 14 + smI (st 1) 60)) 1 c_z else st
def c_tk (E st : am_M) (c : Nat) : Int32 := st 3 c * E 3 c / 16
def c_cv (E st : am_M) (c : Nat) : Int32 := (st 3 c - c_tk E st c) * E 2 c / 16
def c_bw (E : am_M) (t : Nat) (st : am_M) : am_M :=
  am_upR (am_upR (am_up st 0 12 (st 0 12 + smI (c_cv E st) 60)) 3 (fun c => if c < 60 then st 3 c - c_tk E st c - c_cv E st c else st 3 c)) 4 (fun k => if 60 * t ≤ k ∧ k < 60 * t + 60 then c_tk E st (k - 60 * t) else st 4 k)
def c_mo (E : am_M) (sh : Nat → Int32) (kind : Int32) (m : Nat) (sinks : Int32) (t : Nat) (st : am_M) : am_M :=
  c_bw E t (c_gw E sh kind (m + t) (c_sk kind sinks t st))
/-- a drift's beginning; r is what row 2 (parts that come) holds from before -/
def c_s0 (p : Nat) (r : Nat → Int32) : am_M := fun k j => if k = 1 ∧ j = p then 1000000 else if k = 2 then r j else 0
def c_dr (E : am_M) (sh : Nat → Int32) (kind : Int32) (m p : Nat) (sinks : Int32) (r : Nat → Int32) (n : Nat) : am_M :=
  itr (c_mo E sh kind m sinks) n (c_s0 p r)
/-- the found of a whole drift -/
def c_fd (E : am_M) (sh : Nat → Int32) (kind : Int32) (m p : Nat) (sinks : Int32) : Nat → Int32 := c_dr E sh kind m p sinks c_z 12 4
/-! finds read against casts -/
def c_dg (row : Int32) (i : Nat) : Int32 := (row >>> ((4 * nI i) &&& 31)) &&& 15
def c_rest (v : Int32) : Nat → Int32
  | 0 => v
  | n + 1 => c_rest v n / 10
abbrev c_ag (row v : Int32) (n : Nat) : Prop := ∀ i, i < n → c_dg row i = 10 ∨ c_dg row i = c_rest v i - c_rest v i / 10 * 10
def c_cards (row fc ca fi mn : Int32) : Int32 := if fc = ca then smI (fun i => am_bi (c_ag row (fi + nI i) 4)) mn.toNatClampNeg else 0
/-- found in a rectangle in a month of a drift, in months a .. b of it -/
def c_rc (fd : Nat → Int32) (x0 x1 y0 y1 : Int32) (t : Nat) : Int32 :=
  smI (fun i => smI (fun k => fd (60 * t + 6 * (x0.toNatClampNeg + i) + (y0.toNatClampNeg + k))) (y1.toInt - y0.toInt + 1).toNat) (x1.toInt - x0.toInt + 1).toNat
def c_fw (fd : Nat → Int32) (x0 x1 y0 y1 : Int32) (a b : Int) : Int32 := smI (fun t => if a ≤ (t : Int) ∧ (t : Int) ≤ b then c_rc fd x0 x1 y0 y1 t else 0) 12
/-- the cast's found, as the class keeps casts (rows 19 .. 25) -/
def c_cf (E M : am_M) (sh : Nat → Int32) (c : Nat) : Nat → Int32 := c_fd E sh (M 19 c) (M 22 c).toNatClampNeg (M 23 c).toNatClampNeg (M 25 c)
def c_cd (M : am_M) (f c : Nat) : Int32 := c_cards (M 33 f) (M 34 f) (M 24 c) (M 20 c) (M 21 c)
def c_wt (E M : am_M) (sh : Nat → Int32) (f c : Nat) : Int32 := if c_cd M f c = 0 then 0 else c_fw (c_cf E M sh c) (M 27 (M 35 f).toNatClampNeg) (M 28 (M 35 f).toNatClampNeg) (M 29 (M 35 f).toNatClampNeg) (M 30 (M 35 f).toNatClampNeg) ((M 36 f).toInt - (M 22 c).toInt) ((M 37 f).toInt - (M 22 c).toInt)
/-- shifts number a of 27, in a region -/
def c_sh (a r : Nat) : Int32 := match r with
  | 0 => nI (a / 9) - 1
  | 1 => nI (a / 3 % 3) - 1
  | _ => nI (a % 3) - 1
/-- what is due of cast c in name n -/
def c_du (E M : am_M) (sh : Nat → Int32) (c n : Nat) : Int32 := c_fw (c_cf E M sh c) (M 27 n) (M 28 n) (M 29 n) (M 30 n) 0 11 * M 21 c / 1000
