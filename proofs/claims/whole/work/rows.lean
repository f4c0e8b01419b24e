section
-- 10.core.lean.txt
def iI (x : Int) : Int32 := Int32.ofInt x
def iL (x : Int) : Int64 := Int64.ofInt x
theorem iI_add (x y : Int) : iI x + iI y = iI (x + y) := sorry
theorem iI_sub (x y : Int) : iI x - iI y = iI (x - y) := sorry
theorem iI_mul (x y : Int) : iI x * iI y = iI (x * y) := sorry
theorem iI_toInt {x : Int} (h : -2147483648 ≤ x ∧ x ≤ 2147483647) : (iI x).toInt = x := sorry
theorem iI_of (x : Int32) : x = iI x.toInt := sorry
theorem iI_rng (x : Int32) : -2147483648 ≤ x.toInt ∧ x.toInt ≤ 2147483647 := sorry
theorem iI_inj {x y : Int} (hx : -2147483648 ≤ x ∧ x ≤ 2147483647) (hy : -2147483648 ≤ y ∧ y ≤ 2147483647) : iI x = iI y ↔ x = y := sorry
theorem iI_lt {x y : Int} (hx : -2147483648 ≤ x ∧ x ≤ 2147483647) (hy : -2147483648 ≤ y ∧ y ≤ 2147483647) : iI x < iI y ↔ x < y := sorry
theorem iI_le {x y : Int} (hx : -2147483648 ≤ x ∧ x ≤ 2147483647) (hy : -2147483648 ≤ y ∧ y ≤ 2147483647) : iI x ≤ iI y ↔ x ≤ y := sorry
theorem iI_nat {x : Int} (h : 0 ≤ x ∧ x ≤ 2147483647) : (iI x).toNatClampNeg = x.toNat := sorry
def tbV (t j : Nat) : Int := (([[5, 10, 20, 50], [20, 5, 50, 100, 10], [1, 0, 0, 0, 0], [100, 100, 100, 1000, 100], [1, 1, 1, 1, 5]] : List (List Int)).getD t []).getD j 0
def tbL (t : Nat) : Nat := (([4, 5, 5, 5, 5] : List Nat)).getD t 0
def xIA : String := "java/lang/IllegalArgumentException"
def xIS : String := "java/lang/IllegalStateException"
def xIB : String := "java/lang/IndexOutOfBoundsException"
theorem iL_add (x y : Int) : iL x + iL y = iL (x + y) := sorry
theorem iL_mul (x y : Int) : iL x * iL y = iL (x * y) := sorry
theorem iI_l {x : Int} (h : -2147483648 ≤ x ∧ x ≤ 2147483647) : (iI x).toInt64 = iL x := sorry
-- 11.rows.lean.txt
-- 12.heap.lean.txt
-- 13.calls.lean.txt
-- 14.world.lean.txt
def setG (G : Int → Int → Int) (a b v : Int) : Int → Int → Int := fun x y => if x = a ∧ y = b then v else G x y
theorem setG_same (G : Int → Int → Int) (a b v : Int) : setG G a b v a b = v := sorry
theorem setG_ne {G : Int → Int → Int} {a b v x y : Int} (h : ¬ (x = a ∧ y = b)) : setG G a b v x y = G x y := sorry
def dB (x : Int) : UInt64 := UInt64.ofNat x.toNat
def fB (x : Int) : UInt32 := UInt32.ofNat x.toNat
def ownM (i y : Int) : Int :=
  if y < 0 then 999 else if y < 5 then 17 * i + 2 else if y < 9 then 17 * i + 4 else if y = 9 then 17 * i + 3 else if y = 10 then 17 * i else if y = 11 then 17 * i + 3 else if y < 14 then 17 * i else if y = 14 then 17 * i + 3 else if y < 111 then 17 * i + 9 + (y - 15) / 12 else if y < 311 then 17 * i + 5 else if y = 311 then 17 * i + 3 else if y < 316 then 17 * i + 7 else if y < 320 then 17 * i + 8 else 999
def ownr (x y : Int) : Int :=
  if x < 6 then ownM x y else if x = 6 then (if y = 0 then 102 else 103) else if x < 11 then 97 + x else if x = 11 then 108 else 97 + x
def cpG (G : Int → Int → Int) (p1 d1 n p0 d0 : Int) : Int → Int → Int := fun x y => if x = p1 ∧ d1 ≤ y ∧ y < d1 + n then G p0 (d0 + (y - d1)) else G x y
-- 15.crows.lean.txt
-- 16.ccalls.lean.txt
def b2i (p : Prop) [Decidable p] : Int := if p then 1 else 0
theorem b2i_t {p : Prop} [Decidable p] (h : p) : b2i p = 1 := sorry
theorem b2i_f {p : Prop} [Decidable p] (h : ¬ p) : b2i p = 0 := sorry
theorem b2i_r (p : Prop) [Decidable p] : b2i p = 0 ∨ b2i p = 1 := sorry
theorem b2i_b (p : Prop) [Decidable p] : 0 ≤ b2i p ∧ b2i p ≤ 1 := sorry
theorem b2i_0 {p : Prop} [Decidable p] : b2i p = 0 ↔ ¬ p := sorry
theorem b2i_1 {p : Prop} [Decidable p] : b2i p = 1 ↔ p := sorry
theorem b2i_c {p q : Prop} [Decidable p] [Decidable q] (h : p ↔ q) : b2i p = b2i q := sorry
theorem iI_div {x y : Int} (hx : 0 ≤ x ∧ x ≤ 2147483647) (hy : 0 < y ∧ y ≤ 2147483647) : iI x / iI y = iI (x / y) := sorry
abbrev GG : Type := Int → Int → Int
-- 17.erows.lean.txt
-- 18.words.lean.txt
-- 19.pre.lean.txt
theorem fB_nat (r : UInt32) : fB ((r.toNat : Nat) : Int) = r := sorry
theorem dB_nat (r : UInt64) : dB ((r.toNat : Nat) : Int) = r := sorry
theorem cpG_0 (G : GG) (p1 d1 p0 d0 : Int) : cpG G p1 d1 0 p0 d0 = G := sorry
theorem cpG_succ (G : GG) (p1 d1 p0 d0 : Int) {n m : Int} (hn : 0 ≤ n) (hm : n + 1 = m) : cpG G p1 d1 m p0 d0 = setG (cpG G p1 d1 n p0 d0) p1 (d1 + n) (G p0 (d0 + n)) := sorry
theorem setG_setG (G : GG) (a b v w : Int) : setG (setG G a b v) a b w = setG G a b w := sorry
theorem setG_comm (G : GG) {a b c d v w : Int} (h : ¬ (a = c ∧ b = d)) : setG (setG G a b v) c d w = setG (setG G c d w) a b v := sorry
theorem setG_id (G : GG) (a b : Int) : setG G a b (G a b) = G := sorry
def okW (x : Int) : Prop := 0 ≤ x ∧ x ≤ 1266679808
def fadd1 (x : Int) : Int := ((FP.fadd (fB x) FP.fconst1).toNat : Int)
def faddH (x : Int) : Int := ((FP.fadd (fB x) 1056964608).toNat : Int)
def ffade (x p : Int) : Int := ((FP.fdiv (FP.fmul (fB x) (FP.i2f (iI p))) 1120403456).toNat : Int)
abbrev tenGe (x n : Int) : Prop := ¬ Op.cmpValue (FP.fcmp (FP.fmul 1092616192 (fB x)) (FP.i2f (iI n))) .l < 0
abbrev tenLt (x n : Int) : Prop := ¬ 0 ≤ Op.cmpValue (FP.fcmp (FP.fmul 1092616192 (fB x)) (FP.i2f (iI n))) .g
theorem ite_fin {p : Prop} [Decidable p] {α : Sort _} {a b c : α} (ht : p → c = a) (hf : ¬ p → c = b) : c = if p then a else b := sorry
-- 20.float.lean.txt
theorem fw_0 : okW 0 := sorry
theorem fw_add1 {x : Int} (h : okW x) : vf_n32 (FP.fadd (fB x) FP.fconst1) ∧ okW (fadd1 x) := sorry
theorem fw_addH {x : Int} (h : okW x) : vf_n32 (FP.fadd (fB x) 1056964608) ∧ okW (faddH x) := sorry
theorem fw_fade {x p : Int} (h : okW x) (hp : 0 ≤ p ∧ p ≤ 100) : vf_n32 (FP.fmul (fB x) (FP.i2f (iI p))) ∧ vf_n32 (FP.fdiv (FP.fmul (fB x) (FP.i2f (iI p))) 1120403456) ∧ okW (ffade x p) := sorry
theorem fw_ten {x : Int} (h : okW x) : vf_n32 (FP.fmul 1092616192 (fB x)) := sorry
-- 21.coil.lean.txt
abbrev raisesC (G : GG) (i c ra : Int) : Prop := tenGe (G i (15 + 12 * c + 10)) ra ∧ G i (15 + 12 * c + 5) = 0 ∧ G i (15 + 12 * c + 2) < G i (15 + 12 * c + 4)
abbrev fallsC (G : GG) (i c fa : Int) : Prop := tenLt (G i (15 + 12 * c + 10)) fa ∧ G i (15 + 12 * c + 3) < G i (15 + 12 * c + 2)
def coilSet (G : GG) (i c ra fa : Int) : GG := if raisesC G i c ra then setG (setG (setG G i (15 + 12 * c + 11) 1) i (15 + 12 * c + 2) (G i (15 + 12 * c + 2) + 5)) i (15 + 12 * c + 8) (G i (15 + 12 * c + 8) + 1) else if fallsC G i c fa then setG (setG G i (15 + 12 * c + 11) 0) i (15 + 12 * c + 2) (G i (15 + 12 * c + 2) - 5) else setG G i (15 + 12 * c + 11) 0
def coilBan (G : GG) (i c : Int) : GG := if 0 < G i (15 + 12 * c + 5) then setG G i (15 + 12 * c + 5) (G i (15 + 12 * c + 5) - 1) else G
def coilFine (G : GG) (i c fi : Int) : GG := setG (setG G i (15 + 12 * c + 2) (max (G i (15 + 12 * c + 3)) (G i (15 + 12 * c + 2) - fi))) i (15 + 12 * c + 5) 3
def coilFade (G : GG) (i c p : Int) : GG := setG G i (15 + 12 * c + 10) (ffade (G i (15 + 12 * c + 10)) p)
def coilBegin (G : GG) (i c a b d : Int) : GG := setG (setG (setG (setG (setG (setG (setG (setG (setG (setG (setG (setG G i (15 + 12 * c) a) i (15 + 12 * c + 1) 0) i (15 + 12 * c + 2) b) i (15 + 12 * c + 3) b) i (15 + 12 * c + 4) d) i (15 + 12 * c + 5) 0) i (15 + 12 * c + 6) 0) i (15 + 12 * c + 7) 0) i (15 + 12 * c + 8) 0) i (15 + 12 * c + 9) 0) i (15 + 12 * c + 10) 0) i (15 + 12 * c + 11) 0
def coilSale (G : GG) (i c : Int) : GG := setG (setG (setG (setG G i (15 + 12 * c + 1) (G i (15 + 12 * c + 1) - 1)) i (15 + 12 * c + 10) (fadd1 (G i (15 + 12 * c + 10)))) i (15 + 12 * c + 6) (G i (15 + 12 * c + 6) + 1)) i (15 + 12 * c + 7) (G i (15 + 12 * c + 7) + G i (15 + 12 * c + 2))
theorem cp12 (G : GG) (i j d s : Int) : cpG G i d 12 j s = setG (setG (setG (setG (setG (setG (setG (setG (setG (setG (setG (setG G i d (G j s)) i (d + 1) (G j (s + 1))) i (d + 2) (G j (s + 2))) i (d + 3) (G j (s + 3))) i (d + 4) (G j (s + 4))) i (d + 5) (G j (s + 5))) i (d + 6) (G j (s + 6))) i (d + 7) (G j (s + 7))) i (d + 8) (G j (s + 8))) i (d + 9) (G j (s + 9))) i (d + 10) (G j (s + 10))) i (d + 11) (G j (s + 11)) := sorry
-- 22.pay.lean.txt
def t2F (h2 a f : Int) : Int := min h2 ((a - 50 * f) / 20)
def t1F (h1 h2 a f : Int) : Int := min h1 ((a - 50 * f - 20 * t2F h2 a f) / 10)
def t0F (h0 h1 h2 a f : Int) : Int := min h0 ((a - 50 * f - 20 * t2F h2 a f - 10 * t1F h1 h2 a f) / 5)
def tkF (h0 h1 h2 a f : Int) : Int := if f < 0 then -1 else if a - 50 * f - 20 * t2F h2 a f - 10 * t1F h1 h2 a f - 5 * t0F h0 h1 h2 a f = 0 then f + t2F h2 a f + t1F h1 h2 a f + t0F h0 h1 h2 a f else -1
def set4 (G : GG) (i b v0 v1 v2 v3 : Int) : GG := fun x y => if x = i ∧ b ≤ y ∧ y < b + 4 then (if y = b then v0 else if y = b + 1 then v1 else if y = b + 2 then v2 else v3) else G x y
def tkG (G : GG) (i a f : Int) : GG := if f < 0 then G else set4 G i 316 (t0F (G i 312) (G i 313) (G i 314) a f) (t1F (G i 313) (G i 314) a f) (t2F (G i 314) a f) f
theorem set4_eq (G : GG) (i b v0 v1 v2 v3 : Int) : setG (setG (setG (setG G i (b + 3) v3) i (b + 2) v2) i (b + 1) v1) i b v0 = set4 G i b v0 v1 v2 v3 := sorry
theorem set4_set4 (G : GG) (i b v0 v1 v2 v3 w0 w1 w2 w3 : Int) : set4 (set4 G i b v0 v1 v2 v3) i b w0 w1 w2 w3 = set4 G i b w0 w1 w2 w3 := sorry
theorem set4_ne {G : GG} {i b v0 v1 v2 v3 x y : Int} (h : ¬ (x = i ∧ b ≤ y ∧ y < b + 4)) : set4 G i b v0 v1 v2 v3 x y = G x y := sorry
def fF (h3 a : Int) : Int := min h3 (a / 50)
abbrev btr (h0 h1 h2 h3 a : Int) : Prop := ¬ tkF h0 h1 h2 a (fF h3 a - 1) = -1 ∧ (tkF h0 h1 h2 a (fF h3 a) = -1 ∨ tkF h0 h1 h2 a (fF h3 a - 1) < tkF h0 h1 h2 a (fF h3 a))
def bF (h0 h1 h2 h3 a : Int) : Int := if btr h0 h1 h2 h3 a then fF h3 a - 1 else fF h3 a
abbrev canF (h0 h1 h2 h3 a : Int) : Prop := btr h0 h1 h2 h3 a ∨ ¬ tkF h0 h1 h2 a (fF h3 a) = -1
theorem tkG_ne {G : GG} {i a f x y : Int} (h : ¬ (x = i ∧ 316 ≤ y ∧ y < 320)) : tkG G i a f x y = G x y := sorry
theorem tkG_tkG {G : GG} {i a f g : Int} (hg : 0 ≤ g) : tkG (tkG G i a f) i a g = tkG G i a g := sorry
theorem tF_b {h0 h1 h2 a f : Int} (b0 : 0 ≤ h0 ∧ h0 ≤ 31) (b1 : 0 ≤ h1 ∧ h1 ≤ 31) (b2 : 0 ≤ h2 ∧ h2 ≤ 31) (hf : 0 ≤ f ∧ 50 * f ≤ a) : (0 ≤ t2F h2 a f ∧ t2F h2 a f ≤ h2 ∧ 20 * t2F h2 a f ≤ a - 50 * f) ∧ (0 ≤ t1F h1 h2 a f ∧ t1F h1 h2 a f ≤ h1 ∧ 10 * t1F h1 h2 a f ≤ a - 50 * f - 20 * t2F h2 a f) ∧ (0 ≤ t0F h0 h1 h2 a f ∧ t0F h0 h1 h2 a f ≤ h0 ∧ 5 * t0F h0 h1 h2 a f ≤ a - 50 * f - 20 * t2F h2 a f - 10 * t1F h1 h2 a f) := sorry
theorem tkF_b {h0 h1 h2 a f : Int} (b0 : 0 ≤ h0 ∧ h0 ≤ 31) (b1 : 0 ≤ h1 ∧ h1 ≤ 31) (b2 : 0 ≤ h2 ∧ h2 ≤ 31) (ha : a ≤ 3000) (hf : 50 * f ≤ a) : -1 ≤ tkF h0 h1 h2 a f ∧ tkF h0 h1 h2 a f ≤ 1000 := sorry
-- 23.till.lean.txt
theorem cpG_ne {G : GG} {p1 d1 n p0 d0 x y : Int} (h : ¬ (x = p1 ∧ d1 ≤ y ∧ y < d1 + n)) : cpG G p1 d1 n p0 d0 x y = G x y := sorry
theorem cpG_in {G : GG} {p1 d1 n p0 d0 y : Int} (h : d1 ≤ y ∧ y < d1 + n) : cpG G p1 d1 n p0 d0 p1 y = G p0 (d0 + (y - d1)) := sorry
def sameB (S : Int → Int → Prop) (G G1 : GG) : Prop := ∀ x y, ¬ S x y → G1 x y = G x y
theorem sameB.rf {S : Int → Int → Prop} {G : GG} : sameB S G G := sorry
theorem sameB.tr {S : Int → Int → Prop} {G G1 G2 : GG} (h : sameB S G G1) (h2 : sameB S G1 G2) : sameB S G G2 := sorry
theorem sameB.mono {S S2 : Int → Int → Prop} {G G1 : GG} (h : sameB S G G1) (hs : ∀ x y, S x y → S2 x y) : sameB S2 G G1 := sorry
abbrev scr (i : Int) : Int → Int → Prop := fun x y => x = i ∧ 312 ≤ y ∧ y < 320
theorem tkG_same {G : GG} {i a f : Int} : sameB (scr i) G (tkG G i a f) := sorry
def c3F (h0 h1 h2 h3 a : Int) : Int := bF h0 h1 h2 h3 a
def c2F (h0 h1 h2 h3 a : Int) : Int := t2F h2 a (bF h0 h1 h2 h3 a)
def c1F (h0 h1 h2 h3 a : Int) : Int := t1F h1 h2 a (bF h0 h1 h2 h3 a)
def c0F (h0 h1 h2 h3 a : Int) : Int := t0F h0 h1 h2 a (bF h0 h1 h2 h3 a)
theorem bF_n {h0 h1 h2 h3 a : Int} (b3 : 0 ≤ h3) (ha : 0 ≤ a) : 0 ≤ bF h0 h1 h2 h3 a ∧ bF h0 h1 h2 h3 a ≤ h3 ∧ 50 * bF h0 h1 h2 h3 a ≤ a := sorry
theorem tkG_taken {G : GG} {i a f : Int} (h : 0 ≤ f) : tkG G i a f i 316 = t0F (G i 312) (G i 313) (G i 314) a f ∧ tkG G i a f i 317 = t1F (G i 313) (G i 314) a f ∧ tkG G i a f i 318 = t2F (G i 314) a f ∧ tkG G i a f i 319 = f := sorry
def fndP (G : GG) (i h0 h1 h2 h3 a : Int) (r : Int) (G1 : GG) : Prop := r = b2i (canF h0 h1 h2 h3 a) ∧ G1 i 316 = c0F h0 h1 h2 h3 a ∧ G1 i 317 = c1F h0 h1 h2 h3 a ∧ G1 i 318 = c2F h0 h1 h2 h3 a ∧ G1 i 319 = c3F h0 h1 h2 h3 a ∧ sameB (scr i) G G1
theorem fndP_of {G G0 : GG} {i a r : Int} {G1 : GG} (hs : sameB (scr i) G G0) (ha : 0 ≤ a) (h3 : 0 ≤ G0 i 315) (h1 : r = b2i (canF (G0 i 312) (G0 i 313) (G0 i 314) (G0 i 315) a)) (h2 : G1 = tkG G0 i a (bF (G0 i 312) (G0 i 313) (G0 i 314) (G0 i 315) a)) : fndP G i (G0 i 312) (G0 i 313) (G0 i 314) (G0 i 315) a r G1 := sorry
abbrev inS (i : Int) : Int → Int → Prop := fun x y => x = i ∧ ((5 ≤ y ∧ y < 9) ∨ y = 9)
def inP (G : GG) (i pg : Int) (G1 : GG) : Prop := G1 i 5 = G i 5 + min (G pg 0) (30 - G i 5) ∧ G1 i 6 = G i 6 + min (G pg 1) (30 - G i 6) ∧ G1 i 7 = G i 7 + min (G pg 2) (30 - G i 7) ∧ G1 i 8 = G i 8 + min (G pg 3) (30 - G i 8) ∧ G1 i 9 = G i 9 + 5 * (G pg 0 - min (G pg 0) (30 - G i 5)) + 10 * (G pg 1 - min (G pg 1) (30 - G i 6)) + 20 * (G pg 2 - min (G pg 2) (30 - G i 7)) + 50 * (G pg 3 - min (G pg 3) (30 - G i 8)) ∧ sameB (inS i) G G1
abbrev outS (i : Int) : Int → Int → Prop := fun x y => x = i ∧ 5 ≤ y ∧ y < 9
def outP (G : GG) (i : Int) (G1 : GG) : Prop := G1 i 5 = G i 5 - G i 316 ∧ G1 i 6 = G i 6 - G i 317 ∧ G1 i 7 = G i 7 - G i 318 ∧ G1 i 8 = G i 8 - G i 319 ∧ sameB (outS i) G G1
def addP (G : GG) (i a : Int) : GG := setG (setG (setG G i (111 + G i 14) a) i 14 (G i 14 + 1)) i 311 (G i 311 + a)
-- 24.keep.lean.txt
def kp (q : Int → Int) (cnt : Int) : Nat → Int → Int → Int → Int → Int → Int × Int × Int × Int × Int
  | 0, j, t0, t1, t2, t3 => (j, t0, t1, t2, t3)
  | n + 1, j, t0, t1, t2, t3 => if j < cnt ∧ canF t0 t1 t2 t3 (q j) then kp q cnt n (j + 1) (t0 - c0F t0 t1 t2 t3 (q j)) (t1 - c1F t0 t1 t2 t3 (q j)) (t2 - c2F t0 t1 t2 t3 (q j)) (t3 - c3F t0 t1 t2 t3 (q j)) else (j, t0, t1, t2, t3)
def sumQ (q : Int → Int) : Nat → Int
  | 0 => 0
  | n + 1 => sumQ q n + q n
abbrev kpS (i : Int) : Int → Int → Prop := fun x y => x = i ∧ ((5 ≤ y ∧ y < 9) ∨ y = 11 ∨ y = 14 ∨ (111 ≤ y ∧ y < 320))
abbrev kpS0 (i : Int) : Int → Int → Prop := fun x y => x = i ∧ ((5 ≤ y ∧ y < 9) ∨ y = 11 ∨ (311 ≤ y ∧ y < 320))
abbrev prm (G : GG) (i : Int) : Int → Int := fun m => G i (111 + m)
def keepP (G : GG) (i : Int) (r : Int × Int × Int × Int × Int) (G1 : GG) : Prop := G1 i 5 = r.2.1 ∧ G1 i 6 = r.2.2.1 ∧ G1 i 7 = r.2.2.2.1 ∧ G1 i 8 = r.2.2.2.2 ∧ G1 i 14 = G i 14 - r.1 ∧ G1 i 311 = G i 311 - sumQ (prm G i) r.1.toNat ∧ G1 i 11 = G i 11 + sumQ (prm G i) r.1.toNat ∧ (∀ m : Int, 0 ≤ m → m < G i 14 - r.1 → G1 i (111 + m) = G i (111 + r.1 + m)) ∧ sameB (kpS i) G G1
def ppI (G : GG) (i j t0 t1 t2 t3 : Int) (H : GG) : Prop := H i 5 = t0 ∧ H i 6 = t1 ∧ H i 7 = t2 ∧ H i 8 = t3 ∧ H i 311 = G i 311 - sumQ (prm G i) j.toNat ∧ H i 11 = G i 11 + sumQ (prm G i) j.toNat ∧ sameB (kpS0 i) G H
theorem cF_b {h0 h1 h2 h3 a : Int} (b0 : 0 ≤ h0 ∧ h0 ≤ 31) (b1 : 0 ≤ h1 ∧ h1 ≤ 31) (b2 : 0 ≤ h2 ∧ h2 ≤ 31) (b3 : 0 ≤ h3 ∧ h3 ≤ 31) (ha : 0 ≤ a) : (0 ≤ c0F h0 h1 h2 h3 a ∧ c0F h0 h1 h2 h3 a ≤ h0) ∧ (0 ≤ c1F h0 h1 h2 h3 a ∧ c1F h0 h1 h2 h3 a ≤ h1) ∧ (0 ≤ c2F h0 h1 h2 h3 a ∧ c2F h0 h1 h2 h3 a ≤ h2) ∧ (0 ≤ c3F h0 h1 h2 h3 a ∧ c3F h0 h1 h2 h3 a ≤ h3) := sorry
theorem sumQ_succ (q : Int → Int) {j : Int} (h : 0 ≤ j) : sumQ q (j + 1).toNat = sumQ q j.toNat + q j := sorry
theorem kp_t {q : Int → Int} {cnt : Int} {n : Nat} {j t0 t1 t2 t3 : Int} (h : j < cnt ∧ canF t0 t1 t2 t3 (q j)) : kp q cnt (n + 1) j t0 t1 t2 t3 = kp q cnt n (j + 1) (t0 - c0F t0 t1 t2 t3 (q j)) (t1 - c1F t0 t1 t2 t3 (q j)) (t2 - c2F t0 t1 t2 t3 (q j)) (t3 - c3F t0 t1 t2 t3 (q j)) := sorry
theorem kp_f {q : Int → Int} {cnt : Int} {n : Nat} {j t0 t1 t2 t3 : Int} (h : ¬ (j < cnt ∧ canF t0 t1 t2 t3 (q j))) : kp q cnt (n + 1) j t0 t1 t2 t3 = (j, t0, t1, t2, t3) := sorry
theorem kp_b {q : Int → Int} {cnt : Int} (hq : ∀ m, 0 ≤ m → m < cnt → 0 ≤ q m) : ∀ (n : Nat) (j t0 t1 t2 t3 : Int), 0 ≤ j → j ≤ cnt → (0 ≤ t0 ∧ t0 ≤ 30) → (0 ≤ t1 ∧ t1 ≤ 30) → (0 ≤ t2 ∧ t2 ≤ 30) → (0 ≤ t3 ∧ t3 ≤ 30) → (j ≤ (kp q cnt n j t0 t1 t2 t3).1 ∧ (kp q cnt n j t0 t1 t2 t3).1 ≤ cnt) ∧ (0 ≤ (kp q cnt n j t0 t1 t2 t3).2.1 ∧ (kp q cnt n j t0 t1 t2 t3).2.1 ≤ 30) ∧ (0 ≤ (kp q cnt n j t0 t1 t2 t3).2.2.1 ∧ (kp q cnt n j t0 t1 t2 t3).2.2.1 ≤ 30) ∧ (0 ≤ (kp q cnt n j t0 t1 t2 t3).2.2.2.1 ∧ (kp q cnt n j t0 t1 t2 t3).2.2.2.1 ≤ 30) ∧ (0 ≤ (kp q cnt n j t0 t1 t2 t3).2.2.2.2 ∧ (kp q cnt n j t0 t1 t2 t3).2.2.2.2 ≤ 30) := sorry
def okP (G : GG) (i : Int) : Prop := (0 ≤ G i 14 ∧ G i 14 ≤ 200) ∧ (∀ m : Int, 0 ≤ m → m < G i 14 → 0 ≤ G i (111 + m) ∧ G i (111 + m) ≤ 3000) ∧ ∀ k : Int, 0 ≤ k → k < 4 → 0 ≤ G i (5 + k) ∧ G i (5 + k) ≤ 30
abbrev kpG (G : GG) (i : Int) : Int × Int × Int × Int × Int := kp (prm G i) (G i 14) 201 0 (G i 5) (G i 6) (G i 7) (G i 8)
def fillG (G : GG) (i t n : Int) : GG := setG G i (5 + t) (G i (5 + t) + min n (30 - G i (5 + t)))
theorem okP_fill {G : GG} {i t n : Int} (ho : okP G i) (ht : 0 ≤ t ∧ t < 4) (hn : 0 ≤ n) : okP (fillG G i t n) i := sorry
def tillOver (G : GG) (i j : Int) : GG := setG (setG (setG (setG (cpG (cpG G i (5 + 0) 4 j (5 + 0)) i (111 + 0) 200 j (111 + 0)) i 9 (G j 9)) i 14 (G j 14)) i 311 (G j 311)) i 11 (G j 11)
-- 25.mach.lean.txt
def foldG (f : GG → Int → GG) (G : GG) : Nat → GG
  | 0 => G
  | n + 1 => f (foldG f G n) n
theorem foldG_succ (f : GG → Int → GG) (G : GG) {c : Int} (h : 0 ≤ c) : foldG f G (c + 1).toNat = f (foldG f G c.toNat) c := sorry
def sumF (g : Int → Int) (what : Int) : Nat → Int
  | 0 => 0
  | n + 1 => sumF g what n + g (15 + 12 * n + what)
theorem sumF_succ (g : Int → Int) (what : Int) {c : Int} (h : 0 ≤ c) : sumF g what (c + 1).toNat = sumF g what c.toNat + g (15 + 12 * c + what) := sorry
theorem cpG_more {G : GG} {i j d s n m k : Int} (hij : i ≠ j) (hn : 0 ≤ n) (hm : 0 ≤ m) (hk : n + m = k) : cpG (cpG G i d n j s) i (d + n) m j (s + n) = cpG G i d k j s := sorry
def overP (G : GG) (i j : Int) (G1 : GG) : Prop := (∀ y : Int, 0 ≤ y → y < 15 → G1 i y = G j y) ∧ (∀ y : Int, 15 ≤ y → y < 15 + 12 * G j 13 → G1 i y = G j y) ∧ (∀ y : Int, 111 ≤ y → y < 312 → G1 i y = G j y) ∧ ∀ x y : Int, x ≠ i → G1 x y = G x y
abbrev worthF (g : Int → Int) (b : Int) : Int := 5 * g b + 10 * g (b + 1) + 20 * g (b + 2) + 50 * g (b + 3)
def numF (g : Int → Int) (k : Int) : Int := if k = 0 then g 13 else if k = 1 then g 10 else if k = 2 then worthF g 5 else if k = 3 then g 9 else if k = 4 then g 14 else if k = 5 then g 311 else if k = 6 then g 11 else if k = 7 then sumF g 6 (g 13).toNat else if k = 8 then sumF g 7 (g 13).toNat else if k = 9 then g 12 else sumF g 1 (g 13).toNat
-- 26.sell.lean.txt
abbrev backF (G : GG) (i c pg : Int) : Int := worthF (G pg) 0 - G i (15 + 12 * c + 2)
abbrev uF (G : GG) (i pg k : Int) : Int := min 30 (G i (5 + k) + G pg k)
abbrev canU (G : GG) (i pg a : Int) : Prop := canF (min 30 (G i 5 + G pg 0)) (min 30 (G i 6 + G pg 1)) (min 30 (G i 7 + G pg 2)) (min 30 (G i 8 + G pg 3)) a
abbrev canSellP (G : GG) (i c pg : Int) : Prop := 1 ≤ G i (15 + 12 * c + 1) ∧ 0 ≤ backF G i c pg ∧ (canU G i pg (backF G i c pg) ∨ G i 311 + backF G i c pg ≤ G i 3)
abbrev saleS (i c : Int) : Int → Int → Prop := fun x y => x = i ∧ ((5 ≤ y ∧ y < 10) ∨ y = 14 ∨ (111 ≤ y ∧ y < 320) ∨ y = 15 + 12 * c + 1 ∨ y = 15 + 12 * c + 6 ∨ y = 15 + 12 * c + 7 ∨ y = 15 + 12 * c + 10)
def saleP (G : GG) (i c pg : Int) (H : GG) : Prop :=
  H i (15 + 12 * c + 1) = G i (15 + 12 * c + 1) - 1 ∧ H i (15 + 12 * c + 10) = fadd1 (G i (15 + 12 * c + 10)) ∧ H i (15 + 12 * c + 6) = G i (15 + 12 * c + 6) + 1 ∧ H i (15 + 12 * c + 7) = G i (15 + 12 * c + 7) + G i (15 + 12 * c + 2) ∧
  H i 9 = G i 9 + 5 * (G pg 0 - min (G pg 0) (30 - G i 5)) + 10 * (G pg 1 - min (G pg 1) (30 - G i 6)) + 20 * (G pg 2 - min (G pg 2) (30 - G i 7)) + 50 * (G pg 3 - min (G pg 3) (30 - G i 8)) ∧
  (∀ m : Int, 0 ≤ m → m < G i 14 → H i (111 + m) = G i (111 + m)) ∧ sameB (saleS i c) G H ∧
  ((canU G i pg (backF G i c pg) ∧ H i 14 = G i 14 ∧ H i 311 = G i 311 ∧
      H i 5 = min 30 (G i 5 + G pg 0) - c0F (min 30 (G i 5 + G pg 0)) (min 30 (G i 6 + G pg 1)) (min 30 (G i 7 + G pg 2)) (min 30 (G i 8 + G pg 3)) (backF G i c pg) ∧
      H i 6 = min 30 (G i 6 + G pg 1) - c1F (min 30 (G i 5 + G pg 0)) (min 30 (G i 6 + G pg 1)) (min 30 (G i 7 + G pg 2)) (min 30 (G i 8 + G pg 3)) (backF G i c pg) ∧
      H i 7 = min 30 (G i 7 + G pg 2) - c2F (min 30 (G i 5 + G pg 0)) (min 30 (G i 6 + G pg 1)) (min 30 (G i 7 + G pg 2)) (min 30 (G i 8 + G pg 3)) (backF G i c pg) ∧
      H i 8 = min 30 (G i 8 + G pg 3) - c3F (min 30 (G i 5 + G pg 0)) (min 30 (G i 6 + G pg 1)) (min 30 (G i 7 + G pg 2)) (min 30 (G i 8 + G pg 3)) (backF G i c pg)) ∨
   (¬ canU G i pg (backF G i c pg) ∧ H i 14 = G i 14 + 1 ∧ H i 311 = G i 311 + backF G i c pg ∧ H i (111 + G i 14) = backF G i c pg ∧ H i 5 = min 30 (G i 5 + G pg 0) ∧ H i 6 = min 30 (G i 6 + G pg 1) ∧ H i 7 = min 30 (G i 7 + G pg 2) ∧ H i 8 = min 30 (G i 8 + G pg 3)))
theorem okP_sale {G : GG} {i c pg : Int} {H : GG} (hc : 0 ≤ c ∧ c < 8) (ho : okP G i) (hco : ∀ k : Int, 0 ≤ k → k < 4 → 0 ≤ G pg k ∧ G pg k ≤ 9) (hb : 0 ≤ backF G i c pg ∧ backF G i c pg ≤ 3000) (hn : ¬ canU G i pg (backF G i c pg) → G i 14 < 200) (h : saleP G i c pg H) : okP H i := sorry
theorem coilSale_ne {G : GG} {i c x y : Int} (h : ¬ (x = i ∧ (y = 15 + 12 * c + 1 ∨ y = 15 + 12 * c + 6 ∨ y = 15 + 12 * c + 7 ∨ y = 15 + 12 * c + 10))) : coilSale G i c x y = G x y := sorry
theorem coilSale_at {G : GG} {i c : Int} : coilSale G i c i (15 + 12 * c + 1) = G i (15 + 12 * c + 1) - 1 ∧ coilSale G i c i (15 + 12 * c + 10) = fadd1 (G i (15 + 12 * c + 10)) ∧ coilSale G i c i (15 + 12 * c + 6) = G i (15 + 12 * c + 6) + 1 ∧ coilSale G i c i (15 + 12 * c + 7) = G i (15 + 12 * c + 7) + G i (15 + 12 * c + 2) := sorry
def sellP (G : GG) (i c pg : Int) (r : Int) (G1 : GG) : Prop := ∃ H, saleP G i c pg H ∧ keepP H i (kpG H i) G1 ∧ r = if canU G i pg (backF G i c pg) then backF G i c pg else -10 - backF G i c pg
-- 27.hour.lean.txt
abbrev Row : Type := Int → Int
def up (g : Row) (y v : Int) : Row := fun z => if z = y then v else g z
theorem up_s (g : Row) (y v : Int) : up g y v y = v := sorry
theorem up_n {g : Row} {y v z : Int} (h : z ≠ y) : up g y v z = g z := sorry
def onR (G : GG) (i : Int) (h : Row) : GG := fun x y => if x = i then h y else G x y
theorem onR_at (G : GG) (i : Int) (h : Row) : onR G i h i = h := sorry
theorem onR_ne {G : GG} {i x y : Int} {h : Row} (n : x ≠ i) : onR G i h x y = G x y := sorry
theorem onR_onR (G : GG) (i : Int) (h k : Row) : onR (onR G i h) i k = onR G i k := sorry
theorem onR_id (G : GG) (i : Int) : onR G i (G i) = G := sorry
theorem setG_row (G : GG) (i y v : Int) : setG G i y v = onR G i (up (G i) y v) := sorry
theorem setG_onR (G : GG) (i y v : Int) (h : Row) : setG (onR G i h) i y v = onR G i (up h y v) := sorry
def foldR (f : Row → Int → Row) (g : Row) : Nat → Row
  | 0 => g
  | n + 1 => f (foldR f g n) n
theorem foldR_succ (f : Row → Int → Row) (g : Row) {c : Int} (h : 0 ≤ c) : foldR f g (c + 1).toNat = f (foldR f g c.toNat) c := sorry
abbrev rRaises (g : Row) (c ra : Int) : Prop := tenGe (g (15 + 12 * c + 10)) ra ∧ g (15 + 12 * c + 5) = 0 ∧ g (15 + 12 * c + 2) < g (15 + 12 * c + 4)
abbrev rFalls (g : Row) (c fa : Int) : Prop := tenLt (g (15 + 12 * c + 10)) fa ∧ g (15 + 12 * c + 3) < g (15 + 12 * c + 2)
def rSet (g : Row) (c ra fa : Int) : Row := if rRaises g c ra then up (up (up g (15 + 12 * c + 11) 1) (15 + 12 * c + 2) (g (15 + 12 * c + 2) + 5)) (15 + 12 * c + 8) (g (15 + 12 * c + 8) + 1) else if rFalls g c fa then up (up g (15 + 12 * c + 11) 0) (15 + 12 * c + 2) (g (15 + 12 * c + 2) - 5) else up g (15 + 12 * c + 11) 0
def rBan (g : Row) (c : Int) : Row := if 0 < g (15 + 12 * c + 5) then up g (15 + 12 * c + 5) (g (15 + 12 * c + 5) - 1) else g
def rFine (g : Row) (c fi : Int) : Row := up (up g (15 + 12 * c + 2) (max (g (15 + 12 * c + 3)) (g (15 + 12 * c + 2) - fi))) (15 + 12 * c + 5) 3
def rFade (g : Row) (c p : Int) : Row := up g (15 + 12 * c + 10) (ffade (g (15 + 12 * c + 10)) p)
abbrev bothR (g : Row) (c : Int) : Prop := ¬ g (15 + 12 * c + 11) = 0 ∧ ¬ g (15 + 12 * (c + 1) + 11) = 0
def rCom (g : Row) (c : Int) : Int := if bothR g c then g (15 + 12 * c + 9) + 1 else 0
def rWatch (g : Row) (c : Int) : Row := if g (15 + 12 * c) = g (15 + 12 * (c + 1)) then (if rCom g c = 2 then up (up (rFine (rFine (up g (15 + 12 * c + 9) (rCom g c)) c (g 4)) (c + 1) (g 4)) (15 + 12 * c + 9) 0) 12 (g 12 + 1) else up g (15 + 12 * c + 9) (rCom g c)) else g
theorem coilSet_row (G : GG) (i c ra fa : Int) : coilSet G i c ra fa = onR G i (rSet (G i) c ra fa) := sorry
theorem coilBan_row (G : GG) (i c : Int) : coilBan G i c = onR G i (rBan (G i) c) := sorry
theorem coilFine_row (G : GG) (i c fi : Int) : coilFine G i c fi = onR G i (rFine (G i) c fi) := sorry
theorem coilFade_row (G : GG) (i c p : Int) : coilFade G i c p = onR G i (rFade (G i) c p) := sorry
def okC (g : Row) (c : Int) : Prop := (0 ≤ g (15 + 12 * c + 1) ∧ g (15 + 12 * c + 1) ≤ 20) ∧ 5 ≤ g (15 + 12 * c + 3) ∧ g (15 + 12 * c + 3) ≤ g (15 + 12 * c + 2) ∧ g (15 + 12 * c + 2) ≤ g (15 + 12 * c + 4) ∧ g (15 + 12 * c + 4) ≤ 500 ∧ (0 ≤ g (15 + 12 * c + 5) ∧ g (15 + 12 * c + 5) ≤ 3) ∧ (0 ≤ g (15 + 12 * c + 9) ∧ g (15 + 12 * c + 9) ≤ 1) ∧ okW (g (15 + 12 * c + 10)) ∧ (g (15 + 12 * c + 11) = 0 ∨ g (15 + 12 * c + 11) = 1) ∧ g (15 + 12 * c + 2) % 5 = 0 ∧ g (15 + 12 * c + 3) % 5 = 0 ∧ g (15 + 12 * c + 4) % 5 = 0 ∧ (0 ≤ g (15 + 12 * c) ∧ g (15 + 12 * c) ≤ 5)
def okS (g : Row) : Prop := (1 ≤ g 0 ∧ g 0 ≤ 100) ∧ (0 ≤ g 1 ∧ g 1 ≤ 100) ∧ (0 ≤ g 2 ∧ g 2 ≤ 100) ∧ (0 ≤ g 3 ∧ g 3 ≤ 1000) ∧ (0 ≤ g 4 ∧ g 4 ≤ 100 ∧ g 4 % 5 = 0)
theorem okC_congr {g h : Row} {c : Int} (e : ∀ k : Int, 0 ≤ k → k < 12 → h (15 + 12 * c + k) = g (15 + 12 * c + k)) (o : okC g c) : okC h c := sorry
theorem rSet_spec (g : Row) (c ra fa : Int) : (∀ y, y ≠ 15 + 12 * c + 2 → y ≠ 15 + 12 * c + 8 → y ≠ 15 + 12 * c + 11 → rSet g c ra fa y = g y) ∧ ((rSet g c ra fa (15 + 12 * c + 2) = g (15 + 12 * c + 2) + 5 ∧ rSet g c ra fa (15 + 12 * c + 11) = 1 ∧ g (15 + 12 * c + 2) < g (15 + 12 * c + 4)) ∨ (rSet g c ra fa (15 + 12 * c + 2) = g (15 + 12 * c + 2) - 5 ∧ rSet g c ra fa (15 + 12 * c + 11) = 0 ∧ g (15 + 12 * c + 3) < g (15 + 12 * c + 2)) ∨ (rSet g c ra fa (15 + 12 * c + 2) = g (15 + 12 * c + 2) ∧ rSet g c ra fa (15 + 12 * c + 11) = 0)) := sorry
theorem okC_set {g : Row} {c d ra fa : Int} (o : okC g d) : okC (rSet g c ra fa) d := sorry
theorem okC_ban {g : Row} {c d : Int} (o : okC g d) : okC (rBan g c) d := sorry
theorem okC_fade {g : Row} {c d p : Int} (hp : 0 ≤ p ∧ p ≤ 100) (o : okC g d) : okC (rFade g c p) d := sorry
theorem rFine_ne {g : Row} {c fi y : Int} (h1 : y ≠ 15 + 12 * c + 2) (h2 : y ≠ 15 + 12 * c + 5) : rFine g c fi y = g y := sorry
theorem rFine_at {g : Row} {c fi : Int} : rFine g c fi (15 + 12 * c + 2) = max (g (15 + 12 * c + 3)) (g (15 + 12 * c + 2) - fi) ∧ rFine g c fi (15 + 12 * c + 5) = 3 := sorry
theorem okC_fine {g : Row} {c d fi : Int} (hf : 0 ≤ fi ∧ fi % 5 = 0) (o : okC g d) : okC (rFine g c fi) d := sorry
theorem okC_com {g : Row} {c d v : Int} (hv : 0 ≤ v ∧ v ≤ 1) (o : okC g d) : okC (up g (15 + 12 * c + 9) v) d := sorry
theorem up_up (g : Row) (y v w : Int) : up (up g y v) y w = up g y w := sorry
theorem up_comm (g : Row) {y z v w : Int} (h : y ≠ z) : up (up g y v) z w = up (up g z w) y v := sorry
theorem rCom_b {g : Row} {c : Int} (o : okC g c) : 0 ≤ rCom g c ∧ rCom g c ≤ 2 := sorry
theorem okC_watch {g : Row} {c d : Int} (hf : 0 ≤ g 4 ∧ g 4 % 5 = 0) (hd : 0 ≤ d) (oc : okC g c) (o : okC g d) : okC (rWatch g c) d := sorry
-- 28.pass.lean.txt
def watchG (G : GG) (i c : Int) : GG := onR G i (rWatch (G i) c)
theorem okC_fineArgs {g : Row} {c : Int} (o : okC g c) : (0 ≤ g (15 + 12 * c + 2) ∧ g (15 + 12 * c + 2) ≤ 1000) ∧ (0 ≤ g (15 + 12 * c + 3) ∧ g (15 + 12 * c + 3) ≤ 1000) ∧ (0 ≤ g (15 + 12 * c + 4) ∧ g (15 + 12 * c + 4) ≤ 1000) ∧ (0 ≤ g (15 + 12 * c + 5) ∧ g (15 + 12 * c + 5) ≤ 1000) := sorry
abbrev fArgs (g : Row) (c : Int) : Prop := (0 ≤ g (15 + 12 * c + 2) ∧ g (15 + 12 * c + 2) ≤ 1000) ∧ (0 ≤ g (15 + 12 * c + 3) ∧ g (15 + 12 * c + 3) ≤ 1000) ∧ (0 ≤ g (15 + 12 * c + 4) ∧ g (15 + 12 * c + 4) ≤ 1000) ∧ (0 ≤ g (15 + 12 * c + 5) ∧ g (15 + 12 * c + 5) ≤ 1000)
theorem fArgs_up {g : Row} {c d v : Int} (o : fArgs g c) : fArgs (up g (15 + 12 * d + 9) v) c := sorry
theorem fArgs_fine {g : Row} {c d fi : Int} (h : c ≠ d) (o : fArgs g c) : fArgs (rFine g d fi) c := sorry
theorem rFine_4 {g : Row} {c fi : Int} (hc : 0 ≤ c) : rFine g c fi 4 = g 4 := sorry
-- 29.hour.lean.txt
abbrev f1 (g : Row) : Row → Int → Row := fun h c => rSet h c (g 0) (g 1)
abbrev f2 : Row → Int → Row := fun h c => rBan h c
abbrev f3 : Row → Int → Row := fun h c => rWatch h c
abbrev f4 (g : Row) : Row → Int → Row := fun h c => rFade h c (g 2)
def h1R (g : Row) : Row := foldR (f1 g) g (g 13).toNat
def h2R (g : Row) : Row := foldR f2 (h1R g) (g 13).toNat
def h3R (g : Row) : Row := foldR f3 (h2R g) (g 13 - 1).toNat
def h4R (g : Row) : Row := foldR (f4 g) (h3R g) (g 13).toNat
def hourR (g : Row) : Row := up (h4R g) 10 (g 10 + 1)
def hInv (g h : Row) : Prop := (∀ y : Int, (y < 15 ∧ y ≠ 12) ∨ 111 ≤ y → h y = g y) ∧ ∀ d : Int, 0 ≤ d → d < g 13 → okC h d
theorem hInv_1 {g h : Row} (hv : hInv g h) {c : Int} (hc : 0 ≤ c ∧ c < 8) : hInv g (f1 g h c) := sorry
theorem rBan_ne {g : Row} {c y : Int} (h : y ≠ 15 + 12 * c + 5) : rBan g c y = g y := sorry
theorem hInv_2 {g h : Row} (hv : hInv g h) {c : Int} (hc : 0 ≤ c ∧ c < 8) : hInv g (f2 h c) := sorry
theorem rWatch_ne {g : Row} {c y : Int} (hc : 0 ≤ c ∧ c < 7) (h : (y < 15 ∧ y ≠ 12) ∨ 111 ≤ y) : rWatch g c y = g y := sorry
theorem hInv_3 {g h : Row} (hs : okS g) (hv : hInv g h) {c : Int} (hc : 0 ≤ c ∧ c < 7) (hn : c < g 13) : hInv g (f3 h c) := sorry
theorem hInv_4 {g h : Row} (hs : okS g) (hv : hInv g h) {c : Int} (hc : 0 ≤ c ∧ c < 8) : hInv g (f4 g h c) := sorry
theorem hInv_fold {g g0 : Row} {f : Row → Int → Row} {m : Int} (h0 : hInv g g0) (hf : ∀ h c, hInv g h → 0 ≤ c → c < m → hInv g (f h c)) : ∀ n : Nat, (n : Int) ≤ m → hInv g (foldR f g0 n) := sorry
theorem hInv_rf {g : Row} (h : ∀ d : Int, 0 ≤ d → d < g 13 → okC g d) : hInv g g := sorry
def okH (g : Row) : Prop := okS g ∧ (0 ≤ g 13 ∧ g 13 ≤ 8) ∧ ∀ d : Int, 0 ≤ d → d < g 13 → okC g d
theorem inv1 {g : Row} (o : okH g) : ∀ n : Nat, (n : Int) ≤ g 13 → hInv g (foldR (f1 g) g n) := sorry
theorem inv1' {g : Row} (o : okH g) : hInv g (h1R g) := sorry
theorem inv2 {g : Row} (o : okH g) : ∀ n : Nat, (n : Int) ≤ g 13 → hInv g (foldR f2 (h1R g) n) := sorry
theorem inv2' {g : Row} (o : okH g) : hInv g (h2R g) := sorry
theorem inv3 {g : Row} (o : okH g) : ∀ n : Nat, (n : Int) ≤ g 13 - 1 → hInv g (foldR f3 (h2R g) n) := sorry
theorem inv3' {g : Row} (o : okH g) : hInv g (h3R g) := sorry
theorem inv4 {g : Row} (o : okH g) : ∀ n : Nat, (n : Int) ≤ g 13 → hInv g (foldR (f4 g) (h3R g) n) := sorry
theorem inv4' {g : Row} (o : okH g) : hInv g (h4R g) := sorry
theorem okH_hour {g : Row} (o : okH g) : okH (hourR g) := sorry
-- 30.over.lean.txt
def hoursR (g : Row) : Nat → Row
  | 0 => g
  | n + 1 => hourR (hoursR g n)
theorem hoursR_succ (g : Row) {c : Int} (h : 0 ≤ c) : hoursR g (c + 1).toNat = hourR (hoursR g c.toNat) := sorry
theorem okH_hours {g : Row} (o : okH g) : ∀ n : Nat, okH (hoursR g n) := sorry
-- 31.thr.lean.txt
def thN : List String := ["java/lang/RuntimeException", "java/lang/Exception"]
-- 32.text.lean.txt
def bA (G : GG) (p : Int) : Int := if 0 ≤ p ∧ p < G 7 1 ∧ p < 100 then G 8 p else -1
def okT (G : GG) : Prop := (0 ≤ G 7 1 ∧ G 7 1 ≤ 100) ∧ (0 ≤ G 7 6 ∧ G 7 6 ≤ 100) ∧ (-1 ≤ G 7 7 ∧ G 7 7 ≤ 100) ∧ ∀ k : Int, 0 ≤ k → k < G 7 1 → 0 ≤ G 8 k ∧ G 8 k ≤ 127
theorem bA_r {G : GG} (o : okT G) (p : Int) : -1 ≤ bA G p ∧ bA G p ≤ 127 := sorry
theorem bA_lt {G : GG} (o : okT G) (p : Int) (h : 0 ≤ bA G p) : p < G 7 1 := sorry
def stR (G : GG) : GG := setG (setG G 7 6 0) 7 7 (-1)
def stG (G : GG) : GG := if G 7 7 = -1 then setG G 7 7 (G 7 6) else G
def sgG (G : GG) (s : Int) : GG := if G 7 7 = -1 ∧ bA G (G 7 6) = s then setG G 7 6 (G 7 6 + 1) else stG G
abbrev dgP (G : GG) (m : Int) : Prop := G 7 7 = -1 ∧ 48 ≤ bA G (G 7 6) ∧ bA G (G 7 6) ≤ 48 + m
def dgG (G : GG) (m : Int) : GG := if dgP G m then setG G 7 6 (G 7 6 + 1) else stG G
def dgV (G : GG) (m : Int) : Int := if dgP G m then bA G (G 7 6) - 48 else 0
theorem okT_at {G : GG} {v : Int} (o : okT G) (h : 0 ≤ v ∧ v ≤ 100) : okT (setG G 7 6 v) := sorry
theorem okT_err {G : GG} {v : Int} (o : okT G) (h : -1 ≤ v ∧ v ≤ 100) : okT (setG G 7 7 v) := sorry
theorem okT_ot {G : GG} {a b v : Int} (o : okT G) (h : ¬ (a = 7 ∧ (b = 1 ∨ b = 6 ∨ b = 7)) ∧ a ≠ 8) : okT (setG G a b v) := sorry
theorem okT_st {G : GG} (o : okT G) : okT (stG G) := sorry
theorem okT_sg {G : GG} (o : okT G) {s : Int} (hs : 0 ≤ s) : okT (sgG G s) := sorry
theorem okT_dg {G : GG} (o : okT G) (m : Int) : okT (dgG G m) := sorry
theorem dgV_r {G : GG} {m : Int} (hm : 0 ≤ m) : 0 ≤ dgV G m ∧ dgV G m ≤ m := sorry
def n1 (G : GG) : GG := if 48 ≤ bA (dgG G 9) (dgG G 9 7 6) ∧ bA (dgG G 9) (dgG G 9 7 6) ≤ 57 then dgG (dgG G 9) 9 else dgG G 9
def nuV (G : GG) : Int := if 48 ≤ bA (dgG G 9) (dgG G 9 7 6) ∧ bA (dgG G 9) (dgG G 9 7 6) ≤ 57 then 10 * dgV G 9 + dgV (dgG G 9) 9 else dgV G 9
def nuG (G : GG) (m : Int) : GG := if n1 G 7 7 = -1 ∧ ¬ (48 ≤ bA (n1 G) (n1 G 7 6) ∧ bA (n1 G) (n1 G 7 6) ≤ 57) ∧ (nuV G < 1 ∨ m < nuV G) then setG (n1 G) 7 7 (G 7 6) else n1 G
theorem okT_n1 {G : GG} (o : okT G) : okT (n1 G) := sorry
theorem okT_nu {G : GG} (o : okT G) (m : Int) : okT (nuG G m) := sorry
theorem nuV_r (G : GG) : 0 ≤ nuV G ∧ nuV G ≤ 99 := sorry
def coS (G : GG) (k : Int) : GG := setG (dgG (sgG G 44) 9) 9 k (dgV (sgG G 44) 9)
def coG (G : GG) : Nat → GG
  | 0 => G
  | n + 1 => coS (coG G n) n
theorem okT_co {G : GG} (o : okT G) : ∀ n : Nat, okT (coG G n) := sorry
def roA (G : GG) : GG := setG (setG G 7 2 (bA G (G 7 6))) 7 6 (G 7 6 + 1)
def roB (G : GG) (m : Int) : GG := setG (dgG (roA G) m) 7 3 (dgV (roA G) m)
def roS (G : GG) (m n : Int) : GG := setG (nuG (sgG (roB G m) 120) n) 7 4 (nuV (sgG (roB G m) 120))
def roH (G : GG) : GG := setG (nuG (roA G) 48) 7 4 (nuV (roA G))
def roE (G : GG) : GG := setG (setG G 7 2 (bA G (G 7 6))) 7 7 (G 7 6)
def roD (G : GG) : GG := if bA G (G 7 6) = 115 then roS G 7 20 else if bA G (G 7 6) = 98 then coG (roB G 7) 4 else if bA G (G 7 6) = 102 then roS G 3 30 else if bA G (G 7 6) = 104 then roH G else roE G
def roP (G : GG) : Prop := G 7 6 < G 7 1 ∧ G 7 7 = -1
def roG (G : GG) : GG := if G 7 6 < G 7 1 ∧ G 7 7 = -1 then sgG (roD G) 59 else G
def roV (G : GG) : Int := if G 7 6 < G 7 1 ∧ G 7 7 = -1 then b2i (roG G 7 7 = -1) else 0
theorem okT_roA {G : GG} (o : okT G) (h : G 7 6 < G 7 1) : okT (roA G) := sorry
theorem okT_roB {G : GG} (o : okT G) (h : G 7 6 < G 7 1) (m : Int) : okT (roB G m) := sorry
theorem okT_roS {G : GG} (o : okT G) (h : G 7 6 < G 7 1) (m n : Int) : okT (roS G m n) := sorry
theorem okT_roH {G : GG} (o : okT G) (h : G 7 6 < G 7 1) : okT (roH G) := sorry
theorem okT_roE {G : GG} (o : okT G) : okT (roE G) := sorry
theorem okT_roD {G : GG} (o : okT G) (h : G 7 6 < G 7 1) : okT (roD G) := sorry
theorem okT_ro {G : GG} (o : okT G) : okT (roG G) := sorry
def erL : Nat → GG → GG
  | 0, G => G
  | n + 1, G => if G 7 6 < G 7 1 ∧ G 7 7 = -1 then (if roG G 7 7 = -1 then erL n (roG G) else roG G) else G
theorem okT_er : ∀ (n : Nat) {G : GG}, okT G → okT (erL n G) := sorry
theorem okT_stR {G : GG} (o : okT G) : okT (stR G) := sorry
theorem roV_r (G : GG) : 0 ≤ roV G ∧ roV G ≤ 1 := sorry
theorem erL_0 {K : GG} {n : Nat} (h : roV K = 0) : erL (n + 1) K = roG K := sorry
theorem erL_1 {K : GG} {n : Nat} (h : roV K ≠ 0) : erL (n + 1) K = erL n (roG K) := sorry
-- 33.save.lean.txt
def okV (G : GG) : Prop := (0 ≤ G 6 0 ∧ G 6 0 ≤ 4) ∧ (2 ≤ G 6 10 ∧ G 6 10 ≤ 5) ∧ (2 ≤ G 6 11 ∧ G 6 11 ≤ 5) ∧ (2 ≤ G 6 12 ∧ G 6 12 ≤ 5) ∧ (2 ≤ G 6 13 ∧ G 6 13 ≤ 5) ∧ G 6 10 ≠ G 6 11 ∧ G 6 10 ≠ G 6 12 ∧ G 6 10 ≠ G 6 13 ∧ G 6 11 ≠ G 6 12 ∧ G 6 11 ≠ G 6 13 ∧ G 6 12 ≠ G 6 13
theorem okV_at {G : GG} (o : okV G) {k : Int} (h : 0 ≤ k ∧ k < 4) : 2 ≤ G 6 (k + 10) ∧ G 6 (k + 10) ≤ 5 := sorry
def dropG (G : GG) : GG := setG (setG (setG (setG (setG G 6 10 (G 6 11)) 6 11 (G 6 12)) 6 12 (G 6 13)) 6 13 (G 6 10)) 6 0 3
def cinG (G : GG) (a b c d : Int) : GG := setG (setG (setG (setG G 10 0 a) 10 1 b) 10 2 c) 10 3 d
def saveP (G G1 : GG) : Prop := ∃ (K H : GG) (i n : Int), ((K = G ∧ G 6 0 < 4 ∧ i = G 6 (G 6 0 + 10) ∧ n = G 6 0 + 1) ∨ (K = dropG G ∧ 4 ≤ G 6 0 ∧ i = G 6 10 ∧ n = 4)) ∧ overP K i 0 H ∧ G1 = setG H 6 0 n
theorem dropG_ne {G : GG} {x y : Int} (h : x ≠ 6) : dropG G x y = G x y := sorry
theorem saveP_ne {G G1 : GG} (o : okV G) (h : saveP G G1) {x y : Int} (hx : ¬ (2 ≤ x ∧ x ≤ 6)) : G1 x y = G x y := sorry
-- 34.face.lean.txt
def okM (G : GG) : Prop := okH (G 0) ∧ okP G 0 ∧ (5 * G 0 14 ≤ G 0 311 ∧ G 0 311 ≤ 1000) ∧ (0 ≤ G 0 10 ∧ G 0 10 ≤ 100000) ∧ okV G
def stp (w v : Int) : Prop := tbV 2 w.toNat ≤ v ∧ v ≤ tbV 3 w.toNat ∧ v % tbV 4 w.toNat = 0
theorem okC_z {G : GG} (o : okM G) : ∀ d : Int, 0 ≤ d → d < G 0 13 → (G 0 (15 + 12 * d + 11) = 0 ∨ G 0 (15 + 12 * d + 11) = 1) := sorry
theorem okP_row {G H : GG} (h : H 0 = G 0) (o : okP G 0) : okP H 0 := sorry
theorem saveP_row {G H : GG} (o : okV G) (h : saveP G H) : H 0 = G 0 := sorry
-- 35.what.lean.txt
def ctF (h0 h1 h2 h3 a t : Int) : Int := if t = 0 then c0F h0 h1 h2 h3 a else if t = 1 then c1F h0 h1 h2 h3 a else if t = 2 then c2F h0 h1 h2 h3 a else c3F h0 h1 h2 h3 a
def chF (h0 h1 h2 h3 a t : Int) : Int := if canF h0 h1 h2 h3 a then ctF h0 h1 h2 h3 a t else -1
def mpF (h0 h1 h2 h3 : Int) : Nat → Int
  | 0 => 0
  | n + 1 => if canF h0 h1 h2 h3 (5 * ((n : Int) + 1)) then 5 * ((n : Int) + 1) else mpF h0 h1 h2 h3 n
theorem mpF_1 {h0 h1 h2 h3 c : Int} (hc : 0 < c ∧ c % 5 = 0) (h : canF h0 h1 h2 h3 c) : mpF h0 h1 h2 h3 (c / 5).toNat = c := sorry
theorem mpF_0 {h0 h1 h2 h3 c : Int} (hc : 0 < c ∧ c % 5 = 0) (h : ¬ canF h0 h1 h2 h3 c) : mpF h0 h1 h2 h3 (c / 5).toNat = mpF h0 h1 h2 h3 ((c - 5) / 5).toNat := sorry
def cfF (h0 h1 h2 h3 a : Int) : Int := if canF h0 h1 h2 h3 a then 4 else if canF (h0 + 1) h1 h2 h3 a then 0 else if canF h0 (h1 + 1) h2 h3 a then 1 else if canF h0 h1 (h2 + 1) h3 a then 2 else if canF h0 h1 h2 (h3 + 1) a then 3 else -1
theorem okH_over {G K : GG} {i j : Int} (h : overP G i j K) (o : okH (G j)) : okH (K i) := sorry
-- 36.buy.lean.txt
theorem okH_congr {g g1 : Row} (h : ∀ y : Int, y < 312 → g1 y = g y) (o : okH g) : okH g1 := sorry
theorem okP_congr {G H : GG} {i j : Int} (h : ∀ y : Int, y < 312 → H i y = G j y) (o : okP G j) : okP H i := sorry
theorem okM_congr {G H : GG} (h : ∀ y : Int, y < 312 → H 0 y = G 0 y) (h6 : ∀ y : Int, H 6 y = G 6 y) (o : okM G) : okM H := sorry
theorem cinG_ne {G : GG} {a b c d x y : Int} (h : x ≠ 10) : cinG G a b c d x y = G x y := sorry
theorem cinG_0 (G : GG) (a b c d : Int) : cinG G a b c d 10 0 = a := sorry
theorem cinG_1 (G : GG) (a b c d : Int) : cinG G a b c d 10 1 = b := sorry
theorem cinG_2 (G : GG) (a b c d : Int) : cinG G a b c d 10 2 = c := sorry
theorem cinG_3 (G : GG) (a b c d : Int) : cinG G a b c d 10 3 = d := sorry
theorem canF_0 {h0 h1 h2 h3 : Int} (b0 : 0 ≤ h0) (b1 : 0 ≤ h1) (b2 : 0 ≤ h2) (b3 : 0 ≤ h3) : canF h0 h1 h2 h3 0 := sorry
theorem canSell_congr {G H : GG} {i c pg : Int} (hc : 0 ≤ c ∧ c < 8) (h : ∀ y : Int, y < 312 → H i y = G i y) (hp : ∀ y : Int, H pg y = G pg y) : (backF H i c pg = backF G i c pg) ∧ (∀ a, canU H i pg a = canU G i pg a) ∧ (canSellP H i c pg ↔ canSellP G i c pg) := sorry
theorem room_sale {G : GG} {i c pg : Int} (hc : 0 ≤ c ∧ c < 8) (oc : okC (G i) c) (os : okS (G i)) (op : okP G i) (hs : 5 * G i 14 ≤ G i 311 ∧ G i 311 ≤ 1000) (hco : ∀ k : Int, 0 ≤ k → k < 4 → 0 ≤ G pg k ∧ G pg k ≤ 9) (h : canSellP G i c pg) : ¬ canU G i pg (backF G i c pg) → G i 14 < 200 := sorry
-- 37.fav.lean.txt
abbrev fcl (x y : UInt32) : Int32 := Op.cmpValue (FP.fcmp x y) .l
def fvF (g : Row) : Nat → Int × UInt32
  | 0 => (-1, 3212836864)
  | n + 1 => if fcl (fB (g (15 + 12 * (n : Int) + 10))) (fvF g n).2 ≤ 0 then fvF g n else ((n : Int), fB (g (15 + 12 * (n : Int) + 10)))
theorem fvF_0 {g : Row} {c : Int} (hc : 0 ≤ c) (h : fcl (fB (g (15 + 12 * c + 10))) (fvF g c.toNat).2 ≤ 0) : fvF g (c + 1).toNat = fvF g c.toNat := sorry
theorem fvF_1 {g : Row} {c : Int} (hc : 0 ≤ c) (h : ¬ fcl (fB (g (15 + 12 * c + 10))) (fvF g c.toNat).2 ≤ 0) : fvF g (c + 1).toNat = (c, fB (g (15 + 12 * c + 10))) := sorry
theorem fvF_r (g : Row) : ∀ n : Nat, -1 ≤ (fvF g n).1 ∧ (fvF g n).1 < (n : Int) + 1 := sorry
-- 38.inv.lean.txt
theorem sumQ_split (q : Int → Int) (a : Nat) : ∀ b : Nat, sumQ q (a + b) = sumQ q a + sumQ (fun m => q ((a : Int) + m)) b := sorry
theorem sumQ_eq {p q : Int → Int} : ∀ n : Nat, (∀ m : Int, 0 ≤ m → m < n → p m = q m) → sumQ p n = sumQ q n := sorry
theorem sumQ_ge {q : Int → Int} {k : Int} : ∀ n : Nat, (∀ m : Int, 0 ≤ m → m < n → k ≤ q m) → k * n ≤ sumQ q n := sorry
def okR (G : GG) (i : Int) : Prop := (∀ m : Int, 0 ≤ m → m < G i 14 → 5 ≤ G i (111 + m) ∧ G i (111 + m) % 5 = 0) ∧ G i 311 = sumQ (prm G i) (G i 14).toNat ∧ G i 311 ≤ 1000
theorem okR_5 {G : GG} {i : Int} (h0 : 0 ≤ G i 14) (o : okR G i) : 5 * G i 14 ≤ G i 311 := sorry
theorem okR_keep {G G1 : GG} {i : Int} {r : Int × Int × Int × Int × Int} (h0 : 0 ≤ r.1 ∧ r.1 ≤ G i 14) (o : okR G i) (h : keepP G i r G1) : okR G1 i := sorry
theorem okR_sale {G : GG} {i c pg : Int} {H : GG} (h0 : 0 ≤ G i 14) (o : okR G i) (hl : G i 3 ≤ 1000) (hp : G i (15 + 12 * c + 2) % 5 = 0) (ht : ∀ k : Int, 0 ≤ k → k < 4 → 0 ≤ G i (5 + k)) (hco : ∀ k : Int, 0 ≤ k → k < 4 → 0 ≤ G pg k ∧ G pg k ≤ 9) (hcan : canSellP G i c pg) (h : saleP G i c pg H) : okR H i := sorry
theorem keep_k {G : GG} {i : Int} (o : okP G i) : (0 ≤ (kpG G i).1 ∧ (kpG G i).1 ≤ G i 14) ∧ (0 ≤ (kpG G i).2.1 ∧ (kpG G i).2.1 ≤ 30) ∧ (0 ≤ (kpG G i).2.2.1 ∧ (kpG G i).2.2.1 ≤ 30) ∧ (0 ≤ (kpG G i).2.2.2.1 ∧ (kpG G i).2.2.2.1 ≤ 30) ∧ (0 ≤ (kpG G i).2.2.2.2 ∧ (kpG G i).2.2.2.2 ≤ 30) := sorry
theorem okP_keep {G G1 : GG} {i : Int} (o : okP G i) (h : keepP G i (kpG G i) G1) : okP G1 i := sorry
def okN (G : GG) (i : Int) : Prop := okH (G i) ∧ okP G i ∧ okR G i
theorem okN_sell {G G1 : GG} {i c pg r : Int} (hc : 0 ≤ c ∧ c < G i 13) (o : okN G i) (hco : ∀ k : Int, 0 ≤ k → k < 4 → 0 ≤ G pg k ∧ G pg k ≤ 9) (hcan : canSellP G i c pg) (h : sellP G i c pg r G1) : okN G1 i := sorry
theorem okN_congr {G H : GG} {i j : Int} (h : ∀ y : Int, y < 312 → H i y = G j y) (o : okN G j) : okN H i := sorry
-- 39.row.lean.txt
theorem sell_ne {G G1 : GG} {i c pg r x y : Int} (h : sellP G i c pg r G1) (h1 : ¬ saleS i c x y) (h2 : ¬ kpS i x y) : G1 x y = G x y := sorry
theorem okN_over {G K : GG} {i j : Int} (h : overP G i j K) (o : okN G j) : okN K i := sorry
def salesP (i c : Int) : Nat → GG → Int → GG → Prop
  | 0, G, r, G1 => r = 0 ∧ G1 = G
  | n + 1, G, r, G1 => (¬ canSellP G i c 10 ∧ r = 0 ∧ sameB (scr i) G G1) ∨ (canSellP G i c 10 ∧ ∃ K H x, sameB (scr i) G K ∧ sellP K i c 10 x H ∧ salesP i c n H (r - 1) G1)
-- 40.obey.lean.txt
def ordP (G : GG) : Prop := (-1 ≤ G 7 2 ∧ G 7 2 ≤ 127) ∧ (G 7 2 = 115 → (0 ≤ G 7 3 ∧ G 7 3 ≤ 7) ∧ (1 ≤ G 7 4 ∧ G 7 4 ≤ 20)) ∧ (G 7 2 = 98 → (0 ≤ G 7 3 ∧ G 7 3 ≤ 7) ∧ ∀ k : Int, 0 ≤ k → k < 4 → 0 ≤ G 9 k ∧ G 9 k ≤ 9) ∧ (G 7 2 = 102 → (0 ≤ G 7 3 ∧ G 7 3 ≤ 3) ∧ (1 ≤ G 7 4 ∧ G 7 4 ≤ 30)) ∧ (G 7 2 = 104 → 1 ≤ G 7 4 ∧ G 7 4 ≤ 48)
def obeyP (G : GG) (r : Int) (G1 : GG) : Prop :=
  (G 7 2 = 115 ∧ ((¬ (G 7 3 < G 0 13 ∧ G 0 (15 + 12 * G 7 3 + 1) + G 7 4 ≤ 20) ∧ r = 0 ∧ G1 = G) ∨ ((G 7 3 < G 0 13 ∧ G 0 (15 + 12 * G 7 3 + 1) + G 7 4 ≤ 20) ∧ r = 1 ∧ G1 = setG G 0 (15 + 12 * G 7 3 + 1) (G 0 (15 + 12 * G 7 3 + 1) + G 7 4)))) ∨
  (G 7 2 = 98 ∧ ((¬ G 7 3 < G 0 13 ∧ r = 0 ∧ G1 = G) ∨ (G 7 3 < G 0 13 ∧ ¬ canSellP G 0 (G 7 3) 9 ∧ r = 0 ∧ sameB (scr 0) G G1) ∨ (G 7 3 < G 0 13 ∧ canSellP G 0 (G 7 3) 9 ∧ r = 1 ∧ ∃ K x, sameB (scr 0) G K ∧ sellP K 0 (G 7 3) 9 x G1))) ∨
  (G 7 2 = 102 ∧ r = 1 ∧ keepP (fillG G 0 (G 7 3) (G 7 4)) 0 (kpG (fillG G 0 (G 7 3) (G 7 4)) 0) G1) ∨
  (G 7 2 = 104 ∧ ((¬ G 0 10 + G 7 4 ≤ 100000 ∧ r = 0 ∧ G1 = G) ∨ (G 0 10 + G 7 4 ≤ 100000 ∧ r = 1 ∧ G1 = onR G 0 (hoursR (G 0) (G 7 4).toNat)))) ∨
  ((G 7 2 ≠ 98 ∧ G 7 2 ≠ 102 ∧ G 7 2 ≠ 104 ∧ G 7 2 ≠ 115) ∧ r = 0 ∧ G1 = G)
-- 41.ord.lean.txt
theorem st_ne {G : GG} {x y : Int} (h : ¬ (x = 7 ∧ y = 7)) : stG G x y = G x y := sorry
theorem sg_ne {G : GG} {s x y : Int} (h : ¬ (x = 7 ∧ (y = 6 ∨ y = 7))) : sgG G s x y = G x y := sorry
theorem dg_ne {G : GG} {m x y : Int} (h : ¬ (x = 7 ∧ (y = 6 ∨ y = 7))) : dgG G m x y = G x y := sorry
theorem n1_ne {G : GG} {x y : Int} (h : ¬ (x = 7 ∧ (y = 6 ∨ y = 7))) : n1 G x y = G x y := sorry
theorem nu_ne {G : GG} {m x y : Int} (h : ¬ (x = 7 ∧ (y = 6 ∨ y = 7))) : nuG G m x y = G x y := sorry
theorem co_ne {G : GG} {x y : Int} (h : ¬ (x = 7 ∧ (y = 6 ∨ y = 7)) ∧ x ≠ 9) : ∀ n : Nat, coG G n x y = G x y := sorry
theorem bA_congr {G H : GG} (h1 : H 7 1 = G 7 1) (h8 : ∀ y, H 8 y = G 8 y) (p : Int) : bA H p = bA G p := sorry
theorem sg_err {G : GG} {s : Int} (o : 0 ≤ G 7 6) (h : sgG G s 7 7 = -1) : G 7 7 = -1 ∧ bA G (G 7 6) = s := sorry
theorem nu_err {G : GG} {m : Int} (o : 0 ≤ G 7 6) (h : nuG G m 7 7 = -1) (h2 : ¬ (48 ≤ bA (nuG G m) (nuG G m 7 6) ∧ bA (nuG G m) (nuG G m 7 6) ≤ 57)) : 1 ≤ nuV G ∧ nuV G ≤ m := sorry
theorem co_9 {G : GG} : ∀ n : Nat, ∀ k : Int, 0 ≤ k → k < n → 0 ≤ coG G n 9 k ∧ coG G n 9 k ≤ 9 := sorry
theorem roA_2 (G : GG) : roA G 7 2 = bA G (G 7 6) := sorry
theorem roB_2 (G : GG) (m : Int) : roB G m 7 2 = bA G (G 7 6) := sorry
theorem roB_3 (G : GG) {m : Int} (hm : 0 ≤ m) : 0 ≤ roB G m 7 3 ∧ roB G m 7 3 ≤ m := sorry
theorem roS_2 (G : GG) (m n : Int) : roS G m n 7 2 = bA G (G 7 6) := sorry
theorem roS_3 (G : GG) {m : Int} (n : Int) (hm : 0 ≤ m) : 0 ≤ roS G m n 7 3 ∧ roS G m n 7 3 ≤ m := sorry
theorem nu4 {A : GG} {n : Int} (o : 0 ≤ A 7 6) (e1 : setG (nuG A n) 7 4 (nuV A) 7 7 = -1) (e2 : bA (setG (nuG A n) 7 4 (nuV A)) (setG (nuG A n) 7 4 (nuV A) 7 6) = 59) : 1 ≤ setG (nuG A n) 7 4 (nuV A) 7 4 ∧ setG (nuG A n) 7 4 (nuV A) 7 4 ≤ n := sorry
theorem ordP_ro {G : GG} (o : okT G) (h : roV G ≠ 0) : ordP (roG G) := sorry
-- 42.inv.lean.txt
theorem hour_ne {g : Row} (o : okH g) {y : Int} (h : (y < 10 ∨ y = 11 ∨ y = 13 ∨ y = 14) ∨ 111 ≤ y) : hourR g y = g y := sorry
theorem hours_ne {g : Row} (o : okH g) {y : Int} (h : (y < 10 ∨ y = 11 ∨ y = 13 ∨ y = 14) ∨ 111 ≤ y) : ∀ n : Nat, hoursR g n y = g y := sorry
theorem hours_10 {g : Row} (o : okH g) : ∀ n : Nat, hoursR g n 10 = g 10 + n := sorry
theorem okPR_congr {G H : GG} {i j : Int} (h : ∀ y : Int, (5 ≤ y ∧ y < 9) ∨ y = 14 ∨ (111 ≤ y ∧ y < 312) → H i y = G j y) (o : okP G j ∧ okR G j) : okP H i ∧ okR H i := sorry
theorem okN_hours {G : GG} {i : Int} (o : okN G i) (n : Nat) : okN (onR G i (hoursR (G i) n)) i := sorry
theorem okN_goods {G : GG} {i c v : Int} (hc : 0 ≤ c ∧ c < 8) (hv : 0 ≤ v ∧ v ≤ 20) (o : okN G i) : okN (setG G i (15 + 12 * c + 1) v) i := sorry
theorem okH_keep {G G1 : GG} {i : Int} {r : Int × Int × Int × Int × Int} (o : okH (G i)) (h : keepP G i r G1) : okH (G1 i) := sorry
theorem okN_fill {G G1 : GG} {i t n : Int} (ht : 0 ≤ t ∧ t < 4) (hn : 0 ≤ n) (o : okN G i) (h : keepP (fillG G i t n) i (kpG (fillG G i t n) i) G1) : okN G1 i := sorry
def okO (G : GG) : Prop := okN G 0 ∧ (0 ≤ G 0 10 ∧ G 0 10 ≤ 100000) ∧ okT G
theorem okT_congr {G H : GG} (h7 : ∀ y, H 7 y = G 7 y) (h8 : ∀ y, H 8 y = G 8 y) (o : okT G) : okT H := sorry
theorem okO_obey {G H : GG} {r : Int} (o : okO G) (ob : ordP G) (h : obeyP G r H) : okO H := sorry
theorem ro_ne {G : GG} {x y : Int} (h : x ≠ 7 ∧ x ≠ 9) : roG G x y = G x y := sorry
theorem okO_ro {G : GG} (o : okO G) : okO (roG G) := sorry
-- 43.carry.lean.txt
def coP : Nat → GG → Int → GG → Prop
  | 0, G, r, G1 => r = 0 ∧ G1 = G
  | n + 1, G, r, G1 => (roV G = 0 ∧ r = 0 ∧ G1 = roG G) ∨ (roV G ≠ 0 ∧ obeyP (roG G) 0 G1 ∧ r = 0) ∨ (roV G ≠ 0 ∧ ∃ H, obeyP (roG G) 1 H ∧ coP n H (r - 1) G1)
theorem obey_r {G H : GG} {r : Int} (h : obeyP G r H) : r = 0 ∨ r = 1 := sorry
theorem er_ne {x y : Int} (h : x ≠ 7 ∧ x ≠ 9) : ∀ (n : Nat) (G : GG), erL n G x y = G x y := sorry
theorem stR_ne {G : GG} {x y : Int} (h : x ≠ 7) : stR G x y = G x y := sorry
-- 44.pays.lean.txt
theorem tk_at {h0 h1 h2 a f : Int} (hf : 0 ≤ f) (h : ¬ tkF h0 h1 h2 a f = -1) : a - 50 * f - 20 * t2F h2 a f - 10 * t1F h1 h2 a f - 5 * t0F h0 h1 h2 a f = 0 ∧ tkF h0 h1 h2 a f = f + t2F h2 a f + t1F h1 h2 a f + t0F h0 h1 h2 a f := sorry
theorem tk_of {h0 h1 h2 a f : Int} (hf : 0 ≤ f) (e : a - 50 * f - 20 * t2F h2 a f - 10 * t1F h1 h2 a f - 5 * t0F h0 h1 h2 a f = 0) : tkF h0 h1 h2 a f = f + t2F h2 a f + t1F h1 h2 a f + t0F h0 h1 h2 a f := sorry
theorem py_d1 {h0 h1 h2 a f t L n r : Int} (b : 0 ≤ h0 ∧ 0 ≤ h1 ∧ 0 ≤ h2) (hf : 0 ≤ f) (ht : 0 ≤ t ∧ t < t2F h2 a f) (hL : L = a - 50 * f - 20 * t) (hn : n = min (L / 10) h1) (hr : r = L - 10 * n) (h : 0 ≤ L ∧ r % 5 = 0 ∧ r / 5 ≤ h0) : ¬ tkF h0 h1 h2 a f = -1 ∧ tkF h0 h1 h2 a f < f + t + n + r / 5 := sorry
theorem py_d2 {h0 h1 h2 a f : Int} (b : 0 ≤ h0 ∧ 0 ≤ h1 ∧ 0 ≤ h2) (hf : 0 ≤ f) (hm : 50 * (f + 2) ≤ a) (h : ¬ tkF h0 h1 h2 a f = -1) : ¬ tkF h0 h1 h2 a (f + 2) = -1 ∧ tkF h0 h1 h2 a (f + 2) < tkF h0 h1 h2 a f := sorry
theorem tk_neg {h0 h1 h2 a f : Int} (hf : f < 0) : tkF h0 h1 h2 a f = -1 := sorry
def nx (h0 h1 h2 a f X : Int) : Int := if ¬ tkF h0 h1 h2 a f = -1 ∧ (tkF h0 h1 h2 a X = -1 ∨ tkF h0 h1 h2 a f < tkF h0 h1 h2 a X) then f else X
def sel (h0 h1 h2 a f X t : Int) : Int := if t < t2F h2 a f then nx h0 h1 h2 a f X else X
def stI (h0 h1 h2 a X fw : Int) (K : GG) : Prop := fw = tkF h0 h1 h2 a X ∧ (-1 ≤ fw ∧ fw ≤ 1000) ∧ (¬ fw = -1 → 0 ≤ X ∧ K 17 0 = t0F h0 h1 h2 a X ∧ K 17 1 = t1F h1 h2 a X ∧ K 17 2 = t2F h2 a X ∧ K 17 3 = X)
theorem nx_tk {h0 h1 h2 a f X : Int} (h : ¬ tkF h0 h1 h2 a f = -1) : ¬ tkF h0 h1 h2 a (nx h0 h1 h2 a f X) = -1 ∧ tkF h0 h1 h2 a (nx h0 h1 h2 a f X) ≤ tkF h0 h1 h2 a f := sorry
theorem py_at {h0 h1 h2 a f t L n r : Int} (hf : 0 ≤ f) (ht : t = t2F h2 a f) (hL : L = a - 50 * f - 20 * t) (hn : 0 ≤ L → n = min (L / 10) h1) (hr : r = L - 10 * n) (h0L : 0 ≤ L) : n = t1F h1 h2 a f ∧ (r % 5 = 0 ∧ r / 5 ≤ h0 → t0F h0 h1 h2 a f = r / 5 ∧ tkF h0 h1 h2 a f = f + t + n + r / 5) ∧ (¬ tkF h0 h1 h2 a f = -1 → r % 5 = 0 ∧ r / 5 ≤ h0 ∧ tkF h0 h1 h2 a f = f + t + n + r / 5) := sorry
theorem t2_hi {h2 a f t : Int} (hf : 0 ≤ f) (ht : 0 ≤ t ∧ t ≤ h2) (h : t2F h2 a f < t) : a - 50 * f - 20 * t < 0 := sorry
theorem t2_ok {h2 a f t : Int} (ht : 0 ≤ t ∧ t = t2F h2 a f) : 0 ≤ a - 50 * f - 20 * t := sorry
theorem py_no {h0 h1 h2 a f t X fw L n r : Int} {K : GG} (hf : 0 ≤ f) (ht : 0 ≤ t ∧ t ≤ h2) (hL : L = a - 50 * f - 20 * t) (hn : 0 ≤ L → n = min (L / 10) h1) (hr : r = L - 10 * n) (hno : ¬ (0 ≤ L ∧ r % 5 = 0 ∧ r / 5 ≤ h0 ∧ (fw < 0 ∨ f + t + n + r / 5 < fw))) (hI : stI h0 h1 h2 a (sel h0 h1 h2 a f X t) fw K) : stI h0 h1 h2 a (sel h0 h1 h2 a f X (t - 1)) fw K := sorry
theorem py_yes {h0 h1 h2 a f t X fw L n r : Int} {K K1 : GG} (b : 0 ≤ h0 ∧ 0 ≤ h1 ∧ 0 ≤ h2) (hf : 0 ≤ f) (ht : 0 ≤ t ∧ t ≤ h2) (hL : L = a - 50 * f - 20 * t) (hn : 0 ≤ L → n = min (L / 10) h1) (hr : r = L - 10 * n) (h1L : 0 ≤ L) (h1r : r % 5 = 0) (h1h : r / 5 ≤ h0) (h1f : fw < 0 ∨ f + t + n + r / 5 < fw) (hN : f + t + n + r / 5 ≤ 1000 ∧ 0 ≤ n ∧ 0 ≤ r) (hI : stI h0 h1 h2 a (sel h0 h1 h2 a f X t) fw K)
    (k0 : K1 17 0 = r / 5) (k1 : K1 17 1 = n) (k2 : K1 17 2 = t) (k3 : K1 17 3 = f) : stI h0 h1 h2 a (sel h0 h1 h2 a f X (t - 1)) (f + t + n + r / 5) K1 := sorry
def cur (h0 h1 h2 h3 a f : Int) : Int := if fF h3 a ≤ f then -1 else if f = fF h3 a - 1 then fF h3 a else bF h0 h1 h2 h3 a
theorem stI_eq {h0 h1 h2 a X Y fw : Int} {K : GG} (h : X = Y ∨ (tkF h0 h1 h2 a X = -1 ∧ tkF h0 h1 h2 a Y = -1)) (hI : stI h0 h1 h2 a X fw K) : stI h0 h1 h2 a Y fw K := sorry
theorem py_low {h0 h1 h2 h3 a : Int} (b : 0 ≤ h0 ∧ 0 ≤ h1 ∧ 0 ≤ h2) : ∀ (n : Nat) (f : Int), 0 ≤ f → f < fF h3 a - 1 → fF h3 a - f < n → ¬ tkF h0 h1 h2 a f = -1 → ¬ tkF h0 h1 h2 a (bF h0 h1 h2 h3 a) = -1 ∧ tkF h0 h1 h2 a (bF h0 h1 h2 h3 a) < tkF h0 h1 h2 a f := sorry
theorem py_next {h0 h1 h2 h3 a f fw : Int} {K : GG} (b : 0 ≤ h0 ∧ 0 ≤ h1 ∧ 0 ≤ h2) (hf : 0 ≤ f ∧ f ≤ h3) (hI : stI h0 h1 h2 a (sel h0 h1 h2 a f (cur h0 h1 h2 h3 a f) (-1)) fw K) : stI h0 h1 h2 a (cur h0 h1 h2 h3 a (f - 1)) fw K := sorry
theorem cur_end {h0 h1 h2 h3 a : Int} (b3 : 0 ≤ h3) (ha : 0 ≤ a) : cur h0 h1 h2 h3 a (-1) = bF h0 h1 h2 h3 a := sorry
theorem cur_top {h0 h1 h2 h3 a : Int} : cur h0 h1 h2 h3 a h3 = -1 := sorry
theorem can_bF {h0 h1 h2 h3 a : Int} : canF h0 h1 h2 h3 a ↔ ¬ tkF h0 h1 h2 a (bF h0 h1 h2 h3 a) = -1 := sorry
def pyP (G : GG) (h0 h1 h2 h3 a : Int) (r : Int) (G1 : GG) : Prop := r = b2i (canF h0 h1 h2 h3 a) ∧ (canF h0 h1 h2 h3 a → G1 17 0 = c0F h0 h1 h2 h3 a ∧ G1 17 1 = c1F h0 h1 h2 h3 a ∧ G1 17 2 = c2F h0 h1 h2 h3 a ∧ G1 17 3 = c3F h0 h1 h2 h3 a) ∧ sameB (fun x y => x = 17 ∧ 0 ≤ y ∧ y < 4) G G1
-- 45.mod.lean.txt
theorem iI_u32 {x : Int} (h : 0 ≤ x ∧ x ≤ 2147483647) : (iI x).toUInt32 = fB x := sorry
theorem fB_i32 {x : Int} (h : 0 ≤ x ∧ x ≤ 2147483647) : (fB x).toInt32 = iI x := sorry
theorem okW_fB {x : Int} (h : okW x) : (fB x).toNat = x.toNat := sorry
theorem okW_sn {x : Int} (h : okW x) : vn_sni2f (iI x) = false := sorry
theorem okW_eq {x : Int} (h : okW x) : Op.cmpValue (FP.fcmp (fB x) (fB x)) .l = 0 := sorry
def wtF (t : Int) : Int := if t = 0 then 5 else if t = 1 then 10 else if t = 2 then 20 else 50
def putG (G : GG) (a b c d : Int) : GG := setG (setG (setG (setG G 18 0 a) 18 1 b) 18 2 c) 18 3 d
-- 46.keep.lean.txt
def shG (H : GG) (k : Int) : GG := fun x y => if x = 12 ∧ 111 ≤ y ∧ y < 111 + k then H 12 (y + 1) else H x y
theorem shG_0 (H : GG) : shG H 0 = H := sorry
theorem shG_ne {H : GG} {k x y : Int} (h : ¬ (x = 12 ∧ 111 ≤ y ∧ y < 111 + k)) : shG H k x y = H x y := sorry
theorem shG_in {H : GG} {k y : Int} (h : 111 ≤ y ∧ y < 111 + k) : shG H k 12 y = H 12 (y + 1) := sorry
theorem shG_succ (H : GG) {k : Int} (hk : 0 ≤ k) : setG (shG H k) 12 (111 + k) (H 12 (112 + k)) = shG H (k + 1) := sorry
abbrev kmS : Int → Int → Prop := fun x y => (x = 12 ∧ ((5 ≤ y ∧ y < 9) ∨ y = 11 ∨ y = 14 ∨ (111 ≤ y ∧ y < 311))) ∨ (x = 17 ∧ 0 ≤ y ∧ y < 4)
def keepM (G : GG) (r : Int × Int × Int × Int × Int) (G1 : GG) : Prop := G1 12 5 = r.2.1 ∧ G1 12 6 = r.2.2.1 ∧ G1 12 7 = r.2.2.2.1 ∧ G1 12 8 = r.2.2.2.2 ∧ G1 12 14 = G 12 14 - r.1 ∧ G1 12 11 = G 12 11 + sumQ (prm G 12) r.1.toNat ∧ (∀ m : Int, 0 ≤ m → m < G 12 14 - r.1 → G1 12 (111 + m) = G 12 (111 + r.1 + m)) ∧ sameB kmS G G1
def kmI (G : GG) (j t0 t1 t2 t3 : Int) (K : GG) : Prop := K 12 5 = t0 ∧ K 12 6 = t1 ∧ K 12 7 = t2 ∧ K 12 8 = t3 ∧ K 12 14 = G 12 14 - j ∧ K 12 11 = G 12 11 + sumQ (prm G 12) j.toNat ∧ (∀ m : Int, 0 ≤ m → m < G 12 14 - j → K 12 (111 + m) = G 12 (111 + j + m)) ∧ sameB kmS G K
def tkM (G G1 : GG) : Prop := G1 12 5 = G 12 5 - G 17 0 ∧ G1 12 6 = G 12 6 - G 17 1 ∧ G1 12 7 = G 12 7 - G 17 2 ∧ G1 12 8 = G 12 8 - G 17 3 ∧ sameB (fun x y => x = 12 ∧ 5 ≤ y ∧ y < 9) G G1
def putsG (G : GG) (t w v : Int) : GG := setG (setG G 12 (5 + t) (G 12 (5 + t) + min v (30 - G 12 (5 + t)))) 12 9 (G 12 9 + (v - min v (30 - G 12 (5 + t))) * w)
theorem putsG_of {G : GG} {t w v a A B : Int} (ha : a = 5 + t) (h1 : A = G 12 a + min v (30 - G 12 a)) (h2 : B = G 12 9 + (v - min v (30 - G 12 a)) * w) : setG (setG G 12 a A) 12 9 B = putsG G t w v := sorry
-- 47.mface.lean.txt
def shS (H : GG) (k : Int) : GG := fun x y => if x = 15 ∧ 0 ≤ y ∧ y < k then H 15 (y + 311) else H x y
theorem shS_0 (H : GG) : shS H 0 = H := sorry
theorem shS_ne {H : GG} {k x y : Int} (h : ¬ (x = 15 ∧ 0 ≤ y ∧ y < k)) : shS H k x y = H x y := sorry
theorem shS_in {H : GG} {k y : Int} (h : 0 ≤ y ∧ y < k) : shS H k 15 y = H 15 (y + 311) := sorry
theorem shS_succ (H : GG) {k : Int} (hk : 0 ≤ k) : setG (shS H k) 15 k (H 15 (k + 311)) = shS H (k + 1) := sorry
def holdP (G G1 : GG) : Prop := G1 11 8 = 0 ∧ (∀ y : Int, 0 ≤ y → y < 311 → G1 13 y = G 12 y) ∧ sameB (fun x y => x = 13 ∨ (x = 11 ∧ y = 8)) G G1
def svM (G G1 : GG) : Prop := ∃ d n : Int, ((G 11 4 = 4 ∧ d = 1 ∧ n = 3) ∨ (G 11 4 < 4 ∧ d = 0 ∧ n = G 11 4)) ∧ G1 11 4 = n + 1 ∧ (∀ y : Int, 0 ≤ y → y < 311 → G1 15 (311 * n + y) = G 13 y) ∧ ∀ k y : Int, 0 ≤ k → k < n → 0 ≤ y → y < 311 → G1 15 (311 * k + y) = G 15 (311 * (k + d) + y)
def endsP (G : GG) (a r : Int) (G1 : GG) : Prop := (¬ G 11 8 = 0 ∧ r = 0 ∧ G1 = setG G 11 7 (G 11 8)) ∨ (G 11 8 = 0 ∧ r = a ∧ G1 11 7 = 0 ∧ svM G G1 ∧ sameB (fun x y => x = 15 ∨ (x = 11 ∧ (y = 4 ∨ y = 7))) G G1)
abbrev bdS : Int → Int → Prop := fun x y => x = 12 ∨ x = 14 ∨ x = 17 ∨ x = 18 ∨ x = 20 ∨ (x = 11 ∧ y = 8)
abbrev outS0 : Int → Int → Prop := fun x y => x = 12 ∨ x = 13 ∨ x = 14 ∨ x = 17 ∨ x = 18 ∨ x = 20 ∨ (x = 11 ∧ y ≠ 4 ∧ y ≠ 6)
def svR (G G1 : GG) : Prop := ∃ d n : Int, ((G 11 4 = 4 ∧ d = 1 ∧ n = 3) ∨ (G 11 4 < 4 ∧ d = 0 ∧ n = G 11 4)) ∧ G1 11 4 = n + 1 ∧ (∀ y : Int, 0 ≤ y → y < 311 → G1 15 (311 * n + y) = G 12 y) ∧ ∀ k y : Int, 0 ≤ k → k < n → 0 ≤ y → y < 311 → G1 15 (311 * k + y) = G 15 (311 * (k + d) + y)
def finM (G H : GG) (a r : Int) (G1 : GG) : Prop := (∀ y, G1 12 y = H 12 y) ∧ ((¬ H 11 8 = 0 ∧ r = 0 ∧ G1 11 7 = H 11 8 ∧ sameB outS0 G G1) ∨ (H 11 8 = 0 ∧ r = a ∧ G1 11 7 = 0 ∧ svR G G1 ∧ sameB (fun x y => outS0 x y ∨ x = 15 ∨ (x = 11 ∧ y = 4)) G G1))
def faceM (G : GG) (B : GG → Int → GG → Prop) (r : Int) (G1 : GG) : Prop := ∃ (H8 H : GG) (a : Int), (∀ y, H8 12 y = G 12 y) ∧ H8 11 8 = 0 ∧ B H8 a H ∧ finM G H a r G1
theorem fin_of {G H8 H G1 : GG} {a r : Int} (s8 : holdP G H8) (fr : sameB bdS H8 H) (hA : endsP H a r G1) : finM G H a r G1 := sorry
theorem fin_to {G H8 H G1 : GG} {B : GG → Int → GG → Prop} {a r : Int} (s8 : holdP G H8) (hB : B H8 a H) (fr : sameB bdS H8 H) (hA : endsP H a r G1) : faceM G B r G1 := sorry
theorem hold_row {G H8 : GG} (s8 : holdP G H8) : H8 12 = G 12 := sorry
theorem okP_row12 {G H : GG} (h : H 12 = G 12) (o : okP G 12) : okP H 12 := sorry
-- 48.body.lean.txt
def setB (w v : Int) (ok : Prop) (G : GG) (a : Int) (H : GG) : Prop := (¬ ok ∧ a = 0 ∧ H = setG G 11 8 1) ∨ (ok ∧ a = G 12 w ∧ H = setG G 12 w v)
def addB (k b d : Int) (G : GG) (a : Int) (H : GG) : Prop := (¬ ((0 ≤ k ∧ k ≤ 5) ∧ (5 ≤ b ∧ b ≤ 500 ∧ b % 5 = 0) ∧ (b ≤ d ∧ d ≤ 500 ∧ d % 5 = 0)) ∧ a = 0 ∧ H = setG G 11 8 1) ∨ (((0 ≤ k ∧ k ≤ 5) ∧ (5 ≤ b ∧ b ≤ 500 ∧ b % 5 = 0) ∧ (b ≤ d ∧ d ≤ 500 ∧ d % 5 = 0)) ∧ G 12 13 = 8 ∧ a = 0 ∧ H = setG G 11 8 2) ∨ (((0 ≤ k ∧ k ≤ 5) ∧ (5 ≤ b ∧ b ≤ 500 ∧ b % 5 = 0) ∧ (b ≤ d ∧ d ≤ 500 ∧ d % 5 = 0)) ∧ ¬ G 12 13 = 8 ∧ a = G 12 13 ∧ H = setG (setG (setG (setG (setG G 12 (15 + 12 * G 12 13) k) 12 (15 + 12 * G 12 13 + 3) b) 12 (15 + 12 * G 12 13 + 4) d) 12 (15 + 12 * G 12 13 + 2) b) 12 13 (G 12 13 + 1))
def stockB (c n : Int) (G : GG) (r : Int) (H : GG) : Prop := (¬ (0 ≤ c ∧ c < G 12 13) ∧ r = 0 ∧ H = setG G 11 8 1) ∨ ((0 ≤ c ∧ c < G 12 13) ∧ ¬ (1 ≤ n ∧ n ≤ 20) ∧ r = 0 ∧ H = setG G 11 8 2) ∨ ((0 ≤ c ∧ c < G 12 13) ∧ (1 ≤ n ∧ n ≤ 20) ∧ ¬ G 12 (15 + 12 * c + 1) + n ≤ 20 ∧ r = 0 ∧ H = setG G 11 8 3) ∨ ((0 ≤ c ∧ c < G 12 13) ∧ (1 ≤ n ∧ n ≤ 20) ∧ G 12 (15 + 12 * c + 1) + n ≤ 20 ∧ r = G 12 (15 + 12 * c + 1) + n ∧ H = setG G 12 (15 + 12 * c + 1) (G 12 (15 + 12 * c + 1) + n))
def fillB (t n : Int) (G : GG) (r : Int) (H : GG) : Prop := (¬ (0 ≤ t ∧ t ≤ 3) ∧ r = 0 ∧ H = setG G 11 8 1) ∨ ((0 ≤ t ∧ t ≤ 3) ∧ ¬ (1 ≤ n ∧ n ≤ 30) ∧ r = 0 ∧ H = setG G 11 8 2) ∨ ((0 ≤ t ∧ t ≤ 3) ∧ (1 ≤ n ∧ n ≤ 30) ∧ r = min n (30 - G 12 (5 + t)) ∧ keepM (fillG G 12 t n) (kpG (fillG G 12 t n) 12) H)
def lookB (c : Int) (G : GG) (r : Int) (H : GG) : Prop := (¬ (0 ≤ c ∧ c < G 12 13) ∧ r = 0 ∧ H = setG G 11 8 1) ∨ ((0 ≤ c ∧ c < G 12 13) ∧ r = G 12 (15 + 12 * c + 2) ∧ H = setG G 12 (15 + 12 * c + 10) (faddH (G 12 (15 + 12 * c + 10))))
theorem stockB_fr {c n r : Int} {G H : GG} (h : stockB c n G r H) : sameB bdS G H := sorry
theorem stockB_8 {c n r : Int} {G H : GG} (h8 : G 11 8 = 0) (h : stockB c n G r H) : 0 ≤ H 11 8 ∧ H 11 8 ≤ 3 := sorry
theorem fillB_fr {t n r : Int} {G H : GG} (h : fillB t n G r H) : sameB bdS G H := sorry
theorem fillB_8 {t n r : Int} {G H : GG} (h8 : G 11 8 = 0) (h : fillB t n G r H) : 0 ≤ H 11 8 ∧ H 11 8 ≤ 3 := sorry
theorem sp_1 {G : GG} {c ra fa : Int} (h : rRaises (G 12) c ra) : setG (setG (setG G 12 (15 + 12 * c + 11) 1) 12 (15 + 12 * c + 8) (G 12 (15 + 12 * c + 8) + 1)) 12 (15 + 12 * c + 2) (G 12 (15 + 12 * c + 2) + 5) = onR G 12 (rSet (G 12) c ra fa) := sorry
theorem up_id {g : Row} {y v : Int} (h : g y = v) : up g y v = g := sorry
theorem sp_2 {G : GG} {c ra fa : Int} (h : ¬ rRaises (G 12) c ra) (h2 : rFalls (G 12) c fa) : setG (setG (setG G 12 (15 + 12 * c + 11) 0) 12 (15 + 12 * c + 8) (G 12 (15 + 12 * c + 8))) 12 (15 + 12 * c + 2) (G 12 (15 + 12 * c + 2) - 5) = onR G 12 (rSet (G 12) c ra fa) := sorry
theorem sp_3 {G : GG} {c ra fa : Int} (h : ¬ rRaises (G 12) c ra) (h2 : ¬ rFalls (G 12) c fa) : setG (setG (setG G 12 (15 + 12 * c + 11) 0) 12 (15 + 12 * c + 8) (G 12 (15 + 12 * c + 8))) 12 (15 + 12 * c + 2) (G 12 (15 + 12 * c + 2)) = onR G 12 (rSet (G 12) c ra fa) := sorry
-- 49.mhour.lean.txt
theorem fold4_up (g K : Row) (v : Int) : ∀ n : Nat, foldR (f4 g) (up K 12 v) n = up (foldR (f4 g) K n) 12 v := sorry
theorem fold4_12 (g K : Row) : ∀ n : Nat, foldR (f4 g) K n 12 = K 12 := sorry
theorem hour_12 (g : Row) : hourR g 12 = h3R g 12 := sorry
theorem hour_fin {G : GG} {h : Row} {fi : Int} (hh : h = h4R (G 12)) (hf : fi = h3R (G 12) 12 - G 12 12) : setG (setG (onR G 12 (up h 12 (G 12 12))) 12 10 (G 12 10 + 1)) 12 12 (G 12 12 + fi) = onR G 12 (hourR (G 12)) := sorry
theorem rFine_up {g : Row} {c fi y v : Int} (h : y ≠ 15 + 12 * c + 2 ∧ y ≠ 15 + 12 * c + 3 ∧ y ≠ 15 + 12 * c + 5) : rFine (up g y v) c fi = up (rFine g c fi) y v := sorry
theorem watch_0 {h : Row} {c w : Int} (hne : ¬ h (15 + 12 * c) = h (15 + 12 * (c + 1))) : rWatch h c = h := sorry
theorem watch_1 {h : Row} {c w v : Int} (hc : 0 ≤ c) (hk : h (15 + 12 * c) = h (15 + 12 * (c + 1))) (hv : v = rCom h c) (h2 : ¬ v = 2) : up (up h 12 w) (15 + 12 * c + 9) v = up (rWatch h c) 12 w := sorry
theorem watch_2 {h : Row} {c w f : Int} (hc : 0 ≤ c) (hk : h (15 + 12 * c) = h (15 + 12 * (c + 1))) (hv : rCom h c = 2) (hf : h 4 = f) : rFine (rFine (up (up h 12 w) (15 + 12 * c + 9) 0) c f) (c + 1) f = up (rWatch h c) 12 w ∧ rWatch h c 12 = h 12 + 1 := sorry
theorem rWatch_12 {h : Row} {c : Int} (hc : 0 ≤ c) (h2 : ¬ rCom h c = 2) : rWatch h c 12 = h 12 := sorry
theorem com_1 {h : Row} {c : Int} (h1 : h (15 + 12 * c + 11) = 1) (h2 : h (15 + 12 * (c + 1) + 11) = 1) : rCom h c = h (15 + 12 * c + 9) + 1 := sorry
theorem com_0 {h : Row} {c : Int} (hc : h (15 + 12 * c + 11) = 0 ∨ h (15 + 12 * (c + 1) + 11) = 0) : rCom h c = 0 := sorry
theorem ban_1 {h : Row} {G : GG} {c : Int} (hb : 0 < h (15 + 12 * c + 5)) : setG (onR G 12 h) 12 (15 + 12 * c + 5) (h (15 + 12 * c + 5) - 1) = onR G 12 (rBan h c) := sorry
theorem ban_2 {h : Row} {G : GG} {c : Int} (hb : h (15 + 12 * c + 5) = 0) : setG (onR G 12 h) 12 (15 + 12 * c + 5) 0 = onR G 12 (rBan h c) := sorry
theorem fA12 {g : Row} {c w : Int} (hc : 0 ≤ c) (o : fArgs g c) : fArgs (up g 12 w) c := sorry
theorem fA_fine {g : Row} {c fi : Int} (o : fArgs g (c + 1)) : fArgs (rFine g c fi) (c + 1) := sorry
theorem h2_12 {g : Row} (o : okH g) : h2R g 12 = g 12 := sorry
-- 50.mbuy.lean.txt
def passB (h : Int) (G : GG) (r : Int) (H : GG) : Prop := (¬ (1 ≤ h ∧ h ≤ 48) ∧ r = 0 ∧ H = setG G 11 8 1) ∨ ((1 ≤ h ∧ h ≤ 48) ∧ ¬ G 12 10 + h ≤ 100000 ∧ r = 0 ∧ H = setG G 11 8 2) ∨ ((1 ≤ h ∧ h ≤ 48) ∧ G 12 10 + h ≤ 100000 ∧ r = hoursR (G 12) h.toNat 12 - G 12 12 ∧ H = onR G 12 (hoursR (G 12) h.toNat))
theorem passB_fr {n r : Int} {G H : GG} (h : passB n G r H) : sameB bdS G H := sorry
theorem passB_8 {n r : Int} {G H : GG} (h8 : G 11 8 = 0) (h : passB n G r H) : 0 ≤ H 11 8 ∧ H 11 8 ≤ 3 := sorry
theorem putsG_ne {G : GG} {t w v x y : Int} (h : ¬ (x = 12 ∧ (y = 5 + t ∨ y = 9))) : putsG G t w v x y = G x y := sorry
theorem putsG_at {G : GG} {t w v a b : Int} (h : a = 5 + t) (h9 : a ≠ 9) (hb : G 12 a = b) (hbb : b ≤ 30) (hv : 0 ≤ v) : putsG G t w v 12 a = min 30 (b + v) := sorry
theorem putsG_9 {G : GG} {t w v b c a : Int} (ha : a = 5 + t) (hb : G 12 a = b) (hc : G 12 9 = c) : putsG G t w v 12 9 = c + (v - min v (30 - b)) * w := sorry
def inM (G K : GG) : Prop := K 12 5 = min 30 (G 12 5 + G 18 0) ∧ K 12 6 = min 30 (G 12 6 + G 18 1) ∧ K 12 7 = min 30 (G 12 7 + G 18 2) ∧ K 12 8 = min 30 (G 12 8 + G 18 3) ∧ K 12 9 = G 12 9 + 5 * (G 18 0 - min (G 18 0) (30 - G 12 5)) + 10 * (G 18 1 - min (G 18 1) (30 - G 12 6)) + 20 * (G 18 2 - min (G 18 2) (30 - G 12 7)) + 50 * (G 18 3 - min (G 18 3) (30 - G 12 8)) ∧ (∀ y : Int, 0 ≤ y → y < 311 → K 14 y = G 12 y) ∧ sameB (fun x y => (x = 12 ∧ 5 ≤ y ∧ y < 10) ∨ x = 14) G K
theorem inM_of {G : GG} (t : ∀ k : Int, 0 ≤ k → k < 4 → 0 ≤ G 12 (5 + k) ∧ G 12 (5 + k) ≤ 30) (c : ∀ k : Int, 0 ≤ k → k < 4 → 0 ≤ G 18 k ∧ G 18 k ≤ 9) : inM G (putsG (putsG (putsG (putsG (cpG G 14 0 311 12 0) 0 5 (G 18 0)) 1 10 (G 18 1)) 2 20 (G 18 2)) 3 50 (G 18 3)) := sorry
abbrev sumM (G : GG) : Int := sumQ (prm G 12) (G 12 14).toNat
abbrev canSellM (G : GG) (c : Int) : Prop := 1 ≤ G 12 (15 + 12 * c + 1) ∧ 0 ≤ backF G 12 c 18 ∧ (canU G 12 18 (backF G 12 c 18) ∨ sumM G + backF G 12 c 18 ≤ G 12 3)
abbrev saleMS (c : Int) : Int → Int → Prop := fun x y => (x = 12 ∧ ((5 ≤ y ∧ y < 10) ∨ y = 14 ∨ (111 ≤ y ∧ y < 311) ∨ y = 15 + 12 * c + 1 ∨ y = 15 + 12 * c + 6 ∨ y = 15 + 12 * c + 7 ∨ y = 15 + 12 * c + 10)) ∨ x = 14 ∨ (x = 17 ∧ 0 ≤ y ∧ y < 4)
def saleM (G : GG) (c : Int) (H : GG) : Prop :=
  H 12 (15 + 12 * c + 1) = G 12 (15 + 12 * c + 1) - 1 ∧ H 12 (15 + 12 * c + 10) = fadd1 (G 12 (15 + 12 * c + 10)) ∧ H 12 (15 + 12 * c + 6) = G 12 (15 + 12 * c + 6) + 1 ∧ H 12 (15 + 12 * c + 7) = G 12 (15 + 12 * c + 7) + G 12 (15 + 12 * c + 2) ∧
  H 12 9 = G 12 9 + 5 * (G 18 0 - min (G 18 0) (30 - G 12 5)) + 10 * (G 18 1 - min (G 18 1) (30 - G 12 6)) + 20 * (G 18 2 - min (G 18 2) (30 - G 12 7)) + 50 * (G 18 3 - min (G 18 3) (30 - G 12 8)) ∧
  (∀ m : Int, 0 ≤ m → m < G 12 14 → H 12 (111 + m) = G 12 (111 + m)) ∧ sameB (saleMS c) G H ∧
  ((canU G 12 18 (backF G 12 c 18) ∧ H 12 14 = G 12 14 ∧
      H 12 5 = min 30 (G 12 5 + G 18 0) - c0F (min 30 (G 12 5 + G 18 0)) (min 30 (G 12 6 + G 18 1)) (min 30 (G 12 7 + G 18 2)) (min 30 (G 12 8 + G 18 3)) (backF G 12 c 18) ∧
      H 12 6 = min 30 (G 12 6 + G 18 1) - c1F (min 30 (G 12 5 + G 18 0)) (min 30 (G 12 6 + G 18 1)) (min 30 (G 12 7 + G 18 2)) (min 30 (G 12 8 + G 18 3)) (backF G 12 c 18) ∧
      H 12 7 = min 30 (G 12 7 + G 18 2) - c2F (min 30 (G 12 5 + G 18 0)) (min 30 (G 12 6 + G 18 1)) (min 30 (G 12 7 + G 18 2)) (min 30 (G 12 8 + G 18 3)) (backF G 12 c 18) ∧
      H 12 8 = min 30 (G 12 8 + G 18 3) - c3F (min 30 (G 12 5 + G 18 0)) (min 30 (G 12 6 + G 18 1)) (min 30 (G 12 7 + G 18 2)) (min 30 (G 12 8 + G 18 3)) (backF G 12 c 18)) ∨
   (¬ canU G 12 18 (backF G 12 c 18) ∧ H 12 14 = G 12 14 + 1 ∧ H 12 (111 + G 12 14) = backF G 12 c 18 ∧ H 12 5 = min 30 (G 12 5 + G 18 0) ∧ H 12 6 = min 30 (G 12 6 + G 18 1) ∧ H 12 7 = min 30 (G 12 7 + G 18 2) ∧ H 12 8 = min 30 (G 12 8 + G 18 3)))
theorem okP_saleM {G : GG} {c : Int} {H : GG} (hc : 0 ≤ c ∧ c < 8) (ho : okP G 12) (hco : ∀ k : Int, 0 ≤ k → k < 4 → 0 ≤ G 18 k ∧ G 18 k ≤ 9) (hb : 0 ≤ backF G 12 c 18 ∧ backF G 12 c 18 ≤ 3000) (hn : ¬ canU G 12 18 (backF G 12 c 18) → G 12 14 < 200) (h : saleM G c H) : okP H 12 := sorry
abbrev bdT : Int → Int → Prop := fun x y => x = 12 ∨ x = 14 ∨ x = 17 ∨ (x = 11 ∧ y = 8)
def buyB (c : Int) (G : GG) (r : Int) (H : GG) : Prop := sameB bdT G H ∧ ((¬ canSellM G c ∧ r = 0 ∧ H 11 8 = 3 ∧ ∀ y : Int, 0 ≤ y → y < 311 → H 12 y = G 12 y) ∨ (canSellM G c ∧ H 11 8 = G 11 8 ∧ r = (if canU G 12 18 (backF G 12 c 18) then backF G 12 c 18 else -10 - backF G 12 c 18) ∧ ∃ S, saleM G c S ∧ keepM S (kpG S 12) H))
theorem buyB_8 {c r : Int} {G H : GG} (h8 : G 11 8 = 0) (h : buyB c G r H) : 0 ≤ H 11 8 ∧ H 11 8 ≤ 3 := sorry
abbrev okMR (G : GG) : Prop := 5 * G 12 14 ≤ sumM G ∧ sumM G ≤ 1000
theorem room_saleM {G : GG} {c : Int} (hR : okMR G) (os : okS (G 12)) (t : ∀ k : Int, 0 ≤ k → k < 4 → 0 ≤ G 12 (5 + k) ∧ G 12 (5 + k) ≤ 30) (hco : ∀ k : Int, 0 ≤ k → k < 4 → 0 ≤ G 18 k ∧ G 18 k ≤ 9) (h : canSellM G c) (hn : ¬ canU G 12 18 (backF G 12 c 18)) : G 12 14 < 200 := sorry
-- 51.mask.lean.txt
def buyA (c f t w d : Int) (G : GG) (a : Int) (H : GG) : Prop := (¬ (0 ≤ c ∧ c < G 12 13) ∧ a = 0 ∧ H = setG G 11 8 1) ∨ ((0 ≤ c ∧ c < G 12 13) ∧ ¬ ((0 ≤ f ∧ f ≤ 9) ∧ (0 ≤ t ∧ t ≤ 9) ∧ (0 ≤ w ∧ w ≤ 9) ∧ (0 ≤ d ∧ d ≤ 9)) ∧ a = 0 ∧ H = setG G 11 8 2) ∨ ((0 ≤ c ∧ c < G 12 13) ∧ ((0 ≤ f ∧ f ≤ 9) ∧ (0 ≤ t ∧ t ≤ 9) ∧ (0 ≤ w ∧ w ≤ 9) ∧ (0 ≤ d ∧ d ≤ 9)) ∧ buyB c (putG G f t w d) a H)
theorem putG_ne {G : GG} {a b c d x y : Int} (h : x ≠ 18) : putG G a b c d x y = G x y := sorry
theorem putG_0 (G : GG) (a b c d : Int) : putG G a b c d 18 0 = a := sorry
theorem putG_1 (G : GG) (a b c d : Int) : putG G a b c d 18 1 = b := sorry
theorem putG_2 (G : GG) (a b c d : Int) : putG G a b c d 18 2 = c := sorry
theorem putG_3 (G : GG) (a b c d : Int) : putG G a b c d 18 3 = d := sorry
theorem putG_b {G : GG} {a b c d : Int} (h : (0 ≤ a ∧ a ≤ 9) ∧ (0 ≤ b ∧ b ≤ 9) ∧ (0 ≤ c ∧ c ≤ 9) ∧ (0 ≤ d ∧ d ≤ 9)) : ∀ k : Int, 0 ≤ k → k < 4 → 0 ≤ putG G a b c d 18 k ∧ putG G a b c d 18 k ≤ 9 := sorry
theorem row12 {G H : GG} (h : ∀ y, H 12 y = G 12 y) : H 12 = G 12 := sorry
theorem okMR_row {G H : GG} (h : H 12 = G 12) (o : okMR G) : okMR H := sorry
abbrev quS : Int → Int → Prop := fun x y => x = 12 ∨ x = 13 ∨ x = 14 ∨ x = 17 ∨ x = 18 ∨ x = 19 ∨ x = 20 ∨ (x = 11 ∧ y ≠ 4 ∧ y ≠ 6)
def quiet (G G1 : GG) : Prop := (∀ y : Int, 0 ≤ y → y < 311 → G1 12 y = G 12 y) ∧ sameB quS G G1
theorem quiet_7 {G : GG} {v : Int} : quiet G (setG G 11 7 v) := sorry
def numM (G : GG) (k : Int) : Int := if k = 5 then sumM G else numF (G 12) k
theorem numM_row {G H : GG} (h : H 12 = G 12) (k : Int) : numM H k = numM G k := sorry
theorem numM_7 {G : GG} {v : Int} (k : Int) : numM (setG G 11 7 v) k = numM G k := sorry
theorem ct_of {K : GG} {h0 h1 h2 h3 a t : Int} (ht : 0 ≤ t ∧ t ≤ 3) (hc : K 17 0 = c0F h0 h1 h2 h3 a ∧ K 17 1 = c1F h0 h1 h2 h3 a ∧ K 17 2 = c2F h0 h1 h2 h3 a ∧ K 17 3 = c3F h0 h1 h2 h3 a) : K 17 t = ctF h0 h1 h2 h3 a t := sorry
-- 52.mrow.lean.txt
theorem kp_congr {p q : Int → Int} {cnt : Int} (h : ∀ m : Int, 0 ≤ m → m < cnt → p m = q m) : ∀ (n : Nat) (j t0 t1 t2 t3 : Int), 0 ≤ j → kp p cnt n j t0 t1 t2 t3 = kp q cnt n j t0 t1 t2 t3 := sorry
def sh (G : GG) : GG := setG G 12 311 (sumM G)
theorem sh_ne {G : GG} {x y : Int} (h : ¬ (x = 12 ∧ y = 311)) : sh G x y = G x y := sorry
theorem sh_at (G : GG) : sh G 12 311 = sumM G := sorry
theorem sum_prm {G H : GG} {i j : Int} (hc : G j 14 ≤ 200) (h : ∀ m : Int, 0 ≤ m → m < G j 14 → H i (111 + m) = G j (111 + m)) (e : H i 14 = G j 14) : sumQ (prm H i) (H i 14).toNat = sumQ (prm G j) (G j 14).toNat := sorry
def okN12 (G : GG) : Prop := okN (sh G) 12
theorem okN12_H {G : GG} (o : okN12 G) : okH (G 12) := sorry
theorem okN12_P {G : GG} (o : okN12 G) : okP G 12 := sorry
theorem okN12_R {G : GG} (o : okN12 G) : okMR G := sorry
theorem okN12_of {G H : GG} {i : Int} (o : okN H i) (h : ∀ y : Int, y < 311 → G 12 y = H i y) : okN12 G := sorry
theorem okN12_sell {G S H : GG} {c : Int} (hc : 0 ≤ c ∧ c < G 12 13) (o : okN12 G) (hco : ∀ k : Int, 0 ≤ k → k < 4 → 0 ≤ G 18 k ∧ G 18 k ≤ 9) (hcan : canSellM G c) (hs : saleM G c S) (hk : keepM S (kpG S 12) H) : okN12 H := sorry
def fvM (g : Row) : Nat → Int
  | 0 => -1
  | n + 1 => if fvM g n < 0 ∨ ¬ fcl (fB (g (15 + 12 * (n : Int) + 10))) (fB (g (15 + 12 * fvM g n + 10))) ≤ 0 then (n : Int) else fvM g n
theorem fvM_r (g : Row) : ∀ n : Nat, -1 ≤ fvM g n ∧ fvM g n < (n : Int) := sorry
theorem fvM_1 {g : Row} {c : Int} (hc : 0 ≤ c) (h : fvM g c.toNat < 0 ∨ ¬ fcl (fB (g (15 + 12 * c + 10))) (fB (g (15 + 12 * fvM g c.toNat + 10))) ≤ 0) : fvM g (c + 1).toNat = c := sorry
theorem fvM_0 {g : Row} {c : Int} (hc : 0 ≤ c) (h : ¬ (fvM g c.toNat < 0 ∨ ¬ fcl (fB (g (15 + 12 * c + 10))) (fB (g (15 + 12 * fvM g c.toNat + 10))) ≤ 0)) : fvM g (c + 1).toNat = fvM g c.toNat := sorry
-- 53.mmost.lean.txt
def rowM (c : Int) : Nat → GG → Int → Prop
  | 0, _, _ => False
  | n + 1, K, r => (¬ canSellM K c ∧ r = 0) ∨ (canSellM K c ∧ ∃ S H, saleM K c S ∧ keepM S (kpG S 12) H ∧ (∀ y, H 18 y = K 18 y) ∧ rowM c n H (r - 1))
theorem sellM_ne {K S H : GG} {c x y : Int} (hs : saleM K c S) (hk : keepM S (kpG S 12) H) (h1 : ¬ saleMS c x y) (h2 : ¬ kmS x y) : H x y = K x y := sorry
-- 54.mpay.lean.txt
def isR (K : GG) (S : Int → Prop) : Prop := ∀ j : Int, 0 ≤ j → j ≤ 400 → (K 19 j = 1 ∧ S j) ∨ (K 19 j = 0 ∧ ¬ S j)
def stepS (S : Int → Prop) (w : Int) : Int → Prop := fun j => S j ∨ (w ≤ j ∧ S (j - w))
def itS (S : Int → Prop) (w : Int) : Nat → Int → Prop
  | 0 => S
  | n + 1 => stepS (itS S w n) w
def mixR (K : GG) (S : Int → Prop) (w k : Int) : Prop := ∀ j : Int, 0 ≤ j → j ≤ 400 → (k < j → (K 19 j = 1 ∧ stepS S w j) ∨ (K 19 j = 0 ∧ ¬ stepS S w j)) ∧ (j ≤ k → (K 19 j = 1 ∧ S j) ∨ (K 19 j = 0 ∧ ¬ S j))
theorem itS_succ (S : Int → Prop) (w : Int) {n : Int} (h : 0 ≤ n) : itS S w (n + 1).toNat = stepS (itS S w n.toNat) w := sorry
theorem itS_iff {S : Int → Prop} {w : Int} (hw : 0 ≤ w) : ∀ (n : Nat) (j : Int), itS S w n j ↔ ∃ x : Nat, x ≤ n ∧ (x : Int) * w ≤ j ∧ S (j - (x : Int) * w) ∨ False ∨ (x = 0 ∧ S j) := sorry
theorem pay_can {h0 h1 h2 h3 a x0 x1 x2 x3 : Int} (b0 : 0 ≤ x0 ∧ x0 ≤ h0) (b1 : 0 ≤ x1 ∧ x1 ≤ h1) (b2 : 0 ≤ x2 ∧ x2 ≤ h2) (b3 : 0 ≤ x3 ∧ x3 ≤ h3) (ha : 5 * x0 + 10 * x1 + 20 * x2 + 50 * x3 = a) : canF h0 h1 h2 h3 a := sorry
theorem can_pay {h0 h1 h2 h3 a : Int} (b0 : 0 ≤ h0 ∧ h0 ≤ 31) (b1 : 0 ≤ h1 ∧ h1 ≤ 31) (b2 : 0 ≤ h2 ∧ h2 ≤ 31) (b3 : 0 ≤ h3 ∧ h3 ≤ 31) (ha : 0 ≤ a) (h : canF h0 h1 h2 h3 a) : ∃ x0 x1 x2 x3 : Int, (0 ≤ x0 ∧ x0 ≤ h0) ∧ (0 ≤ x1 ∧ x1 ≤ h1) ∧ (0 ≤ x2 ∧ x2 ≤ h2) ∧ (0 ≤ x3 ∧ x3 ≤ h3) ∧ 5 * x0 + 10 * x1 + 20 * x2 + 50 * x3 = a := sorry
abbrev S4 (h0 h1 h2 h3 : Int) : Int → Prop := itS (itS (itS (itS (fun j => j = 0) 1 h0.toNat) 2 h1.toNat) 4 h2.toNat) 10 h3.toNat
theorem S4_iff {h0 h1 h2 h3 j : Int} (b0 : 0 ≤ h0 ∧ h0 ≤ 31) (b1 : 0 ≤ h1 ∧ h1 ≤ 31) (b2 : 0 ≤ h2 ∧ h2 ≤ 31) (b3 : 0 ≤ h3 ∧ h3 ≤ 31) (hj : 0 ≤ j) : S4 h0 h1 h2 h3 j ↔ canF h0 h1 h2 h3 (5 * j) := sorry
theorem mix_all {K : GG} {S : Int → Prop} {w k : Int} (hk : k < w) (h : mixR K S w k) : isR K (stepS S w) := sorry
theorem mix_0 {K : GG} {S : Int → Prop} {w : Int} (h : isR K S) : mixR K S w 400 := sorry
theorem mix_step {K : GG} {S : Int → Prop} {w k v : Int} (hk : 0 ≤ k ∧ k ≤ 400) (h : mixR K S w k) (hv : (v = 1 ∧ stepS S w k) ∨ (v = 0 ∧ ¬ stepS S w k)) : mixR (setG K 19 k v) S w (k - 1) := sorry
-- 55.mtext.lean.txt
abbrev fig (b : Int) : Prop := 48 ≤ b ∧ b ≤ 57
def bM (G : GG) (p : Int) : Int := if p < G 11 6 then G 16 p else -1
def okX (G : GG) : Prop := (0 ≤ G 11 6 ∧ G 11 6 ≤ 100) ∧ ∀ k : Int, 0 ≤ k → k < G 11 6 → 0 ≤ G 16 k ∧ G 16 k ≤ 127
theorem bM_r {G : GG} (o : okX G) {p : Int} (hp : 0 ≤ p) : -1 ≤ bM G p ∧ bM G p ≤ 127 := sorry
theorem bM_lt {G : GG} (o : okX G) {p : Int} (h : 0 ≤ bM G p) : p < 100 := sorry
theorem bM_congr {G H : GG} (h1 : H 11 6 = G 11 6) (h2 : ∀ y, H 16 y = G 16 y) (p : Int) : bM H p = bM G p := sorry
theorem okX_congr {G H : GG} (h1 : H 11 6 = G 11 6) (h2 : ∀ y, H 16 y = G 16 y) (o : okX G) : okX H := sorry
def nQ (B : Int → Int) (p : Int) : Int := if fig (B (p + 1)) then p + 2 else p + 1
def nV (B : Int → Int) (p : Int) : Int := if fig (B (p + 1)) then 10 * (B p - 48) + (B (p + 1) - 48) else B p - 48
abbrev okNum (B : Int → Int) (p m : Int) : Prop := fig (B p) ∧ ¬ fig (B (nQ B p)) ∧ 1 ≤ nV B p ∧ nV B p ≤ m
def fNum (B : Int → Int) (p : Int) : Int := if ¬ fig (B p) then p else if fig (B (nQ B p)) then nQ B p else p
abbrev okCo (B : Int → Int) (p : Int) : Prop := (B p = 44 ∧ fig (B (p + 1))) ∧ (B (p + 2) = 44 ∧ fig (B (p + 3))) ∧ (B (p + 4) = 44 ∧ fig (B (p + 5))) ∧ (B (p + 6) = 44 ∧ fig (B (p + 7)))
def fCo (B : Int → Int) (p : Int) : Int := if ¬ B p = 44 then p else if ¬ fig (B (p + 1)) then p + 1 else if ¬ B (p + 2) = 44 then p + 2 else if ¬ fig (B (p + 3)) then p + 3 else if ¬ B (p + 4) = 44 then p + 4 else if ¬ fig (B (p + 5)) then p + 5 else if ¬ B (p + 6) = 44 then p + 6 else p + 7
theorem setG_id9 {G : GG} {x y v : Int} (h : G x y = v) : setG G x y v = G := sorry
-- 56.morder.lean.txt
abbrev okSt (B : Int → Int) (p d m : Int) : Prop := (48 ≤ B (p + 1) ∧ B (p + 1) ≤ d) ∧ B (p + 2) = 120 ∧ okNum B (p + 3) m ∧ B (nQ B (p + 3)) = 59
abbrev okBu (B : Int → Int) (p : Int) : Prop := (48 ≤ B (p + 1) ∧ B (p + 1) ≤ 55) ∧ okCo B (p + 2) ∧ B (p + 10) = 59
abbrev okHr (B : Int → Int) (p : Int) : Prop := okNum B (p + 1) 48 ∧ B (nQ B (p + 1)) = 59
def flSt (B : Int → Int) (p d m : Int) : Int := if ¬ (48 ≤ B (p + 1) ∧ B (p + 1) ≤ d) then p + 1 else if ¬ B (p + 2) = 120 then p + 2 else if ¬ okNum B (p + 3) m then fNum B (p + 3) else nQ B (p + 3)
def flBu (B : Int → Int) (p : Int) : Int := if ¬ (48 ≤ B (p + 1) ∧ B (p + 1) ≤ 55) then p + 1 else if ¬ okCo B (p + 2) then fCo B (p + 2) else p + 10
def flHr (B : Int → Int) (p : Int) : Int := if ¬ okNum B (p + 1) 48 then fNum B (p + 1) else nQ B (p + 1)
abbrev okOrd (B : Int → Int) (p : Int) : Prop := (B p = 115 ∧ okSt B p 55 20) ∨ (B p = 98 ∧ okBu B p) ∨ (B p = 102 ∧ okSt B p 51 30) ∨ (B p = 104 ∧ okHr B p)
def flt (B : Int → Int) (p : Int) : Int := if B p = 115 then flSt B p 55 20 else if B p = 98 then flBu B p else if B p = 102 then flSt B p 51 30 else if B p = 104 then flHr B p else p
def nxt (B : Int → Int) (p : Int) : Int := if B p = 115 then nQ B (p + 3) + 1 else if B p = 98 then p + 11 else if B p = 102 then nQ B (p + 3) + 1 else nQ B (p + 1) + 1
theorem nQ_b (B : Int → Int) (p : Int) : p + 1 ≤ nQ B p ∧ nQ B p ≤ p + 2 := sorry
abbrev roS_ : Int → Int → Prop := fun x y => (x = 11 ∧ 13 ≤ y ∧ y ≤ 17) ∨ (x = 18 ∧ 0 ≤ y ∧ y < 4)
-- 57.mcarry.lean.txt
theorem okH_sh {G : GG} (o : okH (G 12)) : okH (sh G 12) := sorry
theorem keepP_of {S H W : GG} (eS : ∀ y : Int, y ≠ 311 → W 12 y = S 12 y) (h14 : 0 ≤ S 12 14 ∧ S 12 14 ≤ 200) (kb : 0 ≤ (kpG S 12).1 ∧ (kpG S 12).1 ≤ S 12 14) (hk : keepM S (kpG S 12) H) : ∃ H' : GG, keepP W 12 (kpG W 12) H' ∧ ∀ y : Int, y ≠ 311 → H' 12 y = H 12 y := sorry
theorem okN12_goods {G : GG} {c v : Int} (hc : 0 ≤ c ∧ c < 8) (hv : 0 ≤ v ∧ v ≤ 20) (o : okN12 G) : okN12 (setG G 12 (15 + 12 * c + 1) v) := sorry
theorem okN12_fill {G H : GG} {t n : Int} (ht : 0 ≤ t ∧ t < 4) (hn : 0 ≤ n) (o : okN12 G) (h : keepM (fillG G 12 t n) (kpG (fillG G 12 t n) 12) H) : okN12 H := sorry
theorem okN12_hours {G : GG} (o : okN12 G) (n : Nat) : okN12 (onR G 12 (hoursR (G 12) n)) := sorry
def ordV (B : Int → Int) (p : Int) (G1 : GG) : Prop := (B p ≠ 104 → G1 11 17 = B (p + 1) - 48) ∧ (B p = 115 ∨ B p = 102 → G1 11 15 = nV B (p + 3)) ∧ (B p = 104 → G1 11 15 = nV B (p + 1)) ∧ (B p = 98 → ∀ k : Int, 0 ≤ k → k < 4 → G1 18 k = B (p + 2 * k + 3) - 48)
def roM (G : GG) (p r : Int) (G1 : GG) : Prop := sameB roS_ G G1 ∧ ((okOrd (bM G) p ∧ r = 1 ∧ G1 11 13 = nxt (bM G) p ∧ G1 11 14 = bM G p ∧ ordV (bM G) p G1) ∨ (¬ okOrd (bM G) p ∧ r = 0 ∧ G1 11 13 = flt (bM G) p))
theorem okOrd_nxt {G : GG} (o : okX G) {p : Int} (h0 : 0 ≤ p) (h : okOrd (bM G) p) : p < nxt (bM G) p ∧ nxt (bM G) p ≤ 100 := sorry
def ordX (G : GG) : Prop := (G 11 14 = 115 ∧ (0 ≤ G 11 17 ∧ G 11 17 ≤ 7) ∧ (1 ≤ G 11 15 ∧ G 11 15 ≤ 20)) ∨ (G 11 14 = 102 ∧ (0 ≤ G 11 17 ∧ G 11 17 ≤ 3) ∧ (1 ≤ G 11 15 ∧ G 11 15 ≤ 30)) ∨ (G 11 14 = 104 ∧ (1 ≤ G 11 15 ∧ G 11 15 ≤ 48)) ∨ (G 11 14 = 98 ∧ (0 ≤ G 11 17 ∧ G 11 17 ≤ 7) ∧ ∀ k : Int, 0 ≤ k → k < 4 → 0 ≤ G 18 k ∧ G 18 k ≤ 9)
def doesM (G : GG) (r : Int) (H : GG) : Prop := (G 11 14 = 115 ∧ stockB (G 11 17) (G 11 15) G r H) ∨ (G 11 14 = 102 ∧ fillB (G 11 17) (G 11 15) G r H) ∨ (G 11 14 = 104 ∧ passB (G 11 15) G r H) ∨ (G 11 14 = 98 ∧ ((¬ (0 ≤ G 11 17 ∧ G 11 17 < G 12 13) ∧ r = 0 ∧ H = setG G 11 8 1) ∨ ((0 ≤ G 11 17 ∧ G 11 17 < G 12 13) ∧ buyB (G 11 17) G r H)))
theorem ordX_of {G L : GG} {p : Int} (h : okOrd (bM G) p) (hl : L 11 14 = bM G p) (hv : ordV (bM G) p L) : ordX L := sorry
-- 58.mcarry.lean.txt
def synE (B : Int → Int) (len : Int) : Nat → Int → Int
  | 0, _ => -1
  | n + 1, p => if p < len then (if okOrd B p then synE B len n (nxt B p) else flt B p) else -1
def coM (B : Int → Int) (len : Int) : Nat → GG → Int → GG → Prop
  | 0, _, _, _ => False
  | f + 1, K, r, H => (¬ K 11 13 < len ∧ r = 0 ∧ H = K) ∨ (K 11 13 < len ∧ ∃ L a M, sameB roS_ K L ∧ L 11 14 = B (K 11 13) ∧ ordV B (K 11 13) L ∧ L 11 13 = nxt B (K 11 13) ∧ doesM L a M ∧ ((¬ M 11 8 = 0 ∧ r = 0 ∧ H = M) ∨ (M 11 8 = 0 ∧ coM B len f M (r - 1) H)))
theorem doesM_fr {G H : GG} {r : Int} (h : doesM G r H) : sameB (fun x y => x = 12 ∨ x = 14 ∨ x = 17 ∨ (x = 11 ∧ y = 8)) G H := sorry
theorem doesM_8 {G H : GG} {r : Int} (h8 : G 11 8 = 0) (h : doesM G r H) : 0 ≤ H 11 8 ∧ H 11 8 ≤ 3 := sorry
theorem keepM_10 {S H : GG} {r : Int × Int × Int × Int × Int} (h : keepM S r H) : H 12 10 = S 12 10 := sorry
theorem doesM_ok {G H : GG} {r : Int} (oX : ordX G) (oN : okN12 G) (o10 : 0 ≤ G 12 10 ∧ G 12 10 ≤ 100000) (h8 : H 11 8 = 0) (h : doesM G r H) : okN12 H ∧ (0 ≤ H 12 10 ∧ H 12 10 ≤ 100000) := sorry
theorem fNum_b (B : Int → Int) (p : Int) : p ≤ fNum B p ∧ fNum B p ≤ p + 2 := sorry
theorem fCo_b (B : Int → Int) (p : Int) : p ≤ fCo B p ∧ fCo B p ≤ p + 7 := sorry
theorem flt_b (B : Int → Int) (p : Int) : p ≤ flt B p ∧ flt B p ≤ p + 12 := sorry
-- 59.digest.lean.txt
def wI (x : Int) : Int := (iI x).toInt
theorem wI_in {x : Int} (h : -2147483648 ≤ x ∧ x ≤ 2147483647) : wI x = x := sorry
def mixF (h v : Int) : Int := 31 * h + wI v
def foldT (F : Int → Int) : Nat → Int → Int → Int
  | 0, _, h => h
  | n + 1, k, h => foldT F n (k + 1) (mixF h (F k))
theorem foldT_s (F : Int → Int) {N k : Int} (h : Int) (hk : k < N) : foldT F (N - k).toNat k h = foldT F (N - (k + 1)).toNat (k + 1) (mixF h (F k)) := sorry
theorem foldT_0 (F : Int → Int) {N k : Int} (h : Int) (hk : ¬ k < N) : foldT F (N - k).toNat k h = h := sorry
def coilT (g : Row) : Nat → Int → Int → Int
  | 0, _, h => h
  | n + 1, c, h => coilT g n (c + 1) (foldT (fun w => g (15 + 12 * c + w)) 11 0 h)
theorem coilT_s (g : Row) {N c : Int} (h : Int) (hk : c < N) : coilT g (N - c).toNat c h = coilT g (N - (c + 1)).toNat (c + 1) (foldT (fun w => g (15 + 12 * c + w)) 11 0 h) := sorry
theorem coilT_0 (g : Row) {N c : Int} (h : Int) (hk : ¬ c < N) : coilT g (N - c).toNat c h = h := sorry
def dg5 (g : Row) (s h : Int) : Int := mixF (foldT (fun m => g (111 + m)) (g 14).toNat 0 h) s
def dg4 (g : Row) (s h : Int) : Int := dg5 g s (coilT g (g 13).toNat 0 h)
def dg3 (g : Row) (s h : Int) : Int := dg4 g s (foldT (fun k => g k) 9 0 h)
def dgF (nu : Int → Int) (g : Row) (len s : Int) : Int := dg3 g s (foldT nu 11 0 (mixF 3643 len))
theorem foldT_snoc (F : Int → Int) : ∀ (n : Nat) (k h : Int), foldT F (n + 1) k h = mixF (foldT F n k h) (F (k + n)) := sorry
theorem foldT_9 (F : Int → Int) (h : Int) : foldT F 9 0 h = foldT (fun k => F (5 + k)) 4 0 (foldT F 5 0 h) := sorry
theorem foldT_snoc10 {g : Row} {c h : Int} : foldT (fun w => g (15 + 12 * c + w)) 11 0 h = mixF (foldT (fun w => g (15 + 12 * c + w)) ((10 : Int) - 0).toNat 0 h) (g (15 + 12 * c + 10)) := sorry
-- 60.law.lean.txt
def lwN (n : Nat) : String := if n = 24 then xIB else if n = 13 then xIA else xIS
-- 64.start.lean.txt
def iniM (y : Int) : Int := if y = 0 then 20 else if y = 1 then 5 else if y = 2 then 50 else if y = 3 then 100 else if y = 4 then 10 else if 5 ≤ y ∧ y ≤ 8 then 5 else 0
def iniG : GG := fun x y => if (0 ≤ x ∧ x < 6) ∨ x = 12 then iniM y else if x = 6 then (if y < 10 then 0 else y - 8) else if x = 7 ∧ y = 7 then -1 else 0
theorem iniM_z {y : Int} (h : 9 ≤ y) : iniM y = 0 := sorry
-- 76.rel.lean.txt
def domE (n : Int) (g h : Row) : Prop := ∀ y : Int, 0 ≤ y → y < 15 + 12 * n → h y = g y
theorem up_dom {n : Int} {g h : Row} (e : domE n g h) (z v : Int) : domE n (up g z v) (up h z v) := sorry
theorem rSet_dom {n : Int} {g h : Row} {c ra fa : Int} (hc : 0 ≤ c ∧ c < n) (e : domE n g h) : domE n (rSet g c ra fa) (rSet h c ra fa) := sorry
theorem rBan_dom {n : Int} {g h : Row} {c : Int} (hc : 0 ≤ c ∧ c < n) (e : domE n g h) : domE n (rBan g c) (rBan h c) := sorry
theorem rFade_dom {n : Int} {g h : Row} {c p : Int} (hc : 0 ≤ c ∧ c < n) (e : domE n g h) : domE n (rFade g c p) (rFade h c p) := sorry
theorem rFine_dom {n : Int} {g h : Row} {c p : Int} (hc : 0 ≤ c ∧ c < n) (e : domE n g h) : domE n (rFine g c p) (rFine h c p) := sorry
theorem rWatch_dom {n : Int} {g h : Row} {c : Int} (hc : 0 ≤ c ∧ c + 1 < n) (e : domE n g h) : domE n (rWatch g c) (rWatch h c) := sorry
theorem foldR_dom {n : Int} {f f' : Row → Int → Row} {K : Nat} (hf : ∀ (g h : Row) (c : Int), 0 ≤ c → c < (K : Int) → domE n g h → domE n (f g c) (f' h c)) {g h : Row} (e : domE n g h) : ∀ k : Nat, k ≤ K → domE n (foldR f g k) (foldR f' h k) := sorry
theorem hourR_dom {g h : Row} (h8 : 0 ≤ g 13) (e : domE (g 13) g h) : domE (g 13) (hourR g) (hourR h) := sorry
theorem hoursR_dom {g h : Row} (o : okH g) (e : domE (g 13) g h) : ∀ k : Nat, domE (g 13) (hoursR g k) (hoursR h k) := sorry
theorem foldR_out {f : Row → Int → Row} {K : Nat} {y : Int} (hf : ∀ (g : Row) (c : Int), 0 ≤ c → c < (K : Int) → f g c y = g y) (g : Row) : ∀ k : Nat, k ≤ K → foldR f g k y = g y := sorry
theorem rWatch_out {g : Row} {c y : Int} (hc : 0 ≤ c) (hy : 15 + 12 * (c + 2) ≤ y) : rWatch g c y = g y := sorry
theorem hourR_out {h : Row} {y : Int} (h8 : 0 ≤ h 13) (hy : 15 + 12 * h 13 ≤ y) : hourR h y = h y := sorry
theorem hoursR_out {h : Row} (o : okH h) {y : Int} (hy : 15 + 12 * h 13 ≤ y) : ∀ k : Nat, hoursR h k y = h y := sorry
theorem okH_dom {g h : Row} (e : domE (g 13) g h) (o : okH g) : okH h := sorry
def rowE (g h : Row) : Prop := domE (g 13) g h ∧ (∀ m : Int, 0 ≤ m → m < g 14 → h (111 + m) = g (111 + m)) ∧ ∀ y : Int, 15 + 12 * g 13 ≤ y → y < 111 → h y = 0
theorem rowE_hours {g h : Row} (o : okH g) (e : rowE g h) (k : Nat) : rowE (hoursR g k) (hoursR h k) := sorry
theorem okN_dom {G H : GG} {i j : Int} (h : ∀ y : Int, (0 ≤ y ∧ y < 15 + 12 * G j 13) ∨ (111 ≤ y ∧ y < 111 + G j 14) ∨ y = 311 → H i y = G j y) (o : okN G j) : okN H i := sorry
theorem sum_rel {G K : GG} {i : Int} (o : okN G i) (e : rowE (G i) (K 12)) : sumM K = G i 311 := sorry
theorem relN {G K : GG} {i : Int} (o : okN G i) (e : rowE (G i) (K 12)) : okN12 K := sorry
theorem kp_rel {G K : GG} {i : Int} (h13 : 0 ≤ G i 13) (e : rowE (G i) (K 12)) : kpG K 12 = kpG G i := sorry
theorem rel_keep {G G1 K K1 : GG} {i : Int} (h8 : 0 ≤ G i 13 ∧ G i 13 ≤ 8) (o : okP G i) (e : rowE (G i) (K 12)) (h : keepP G i (kpG G i) G1) (k : keepM K (kpG K 12) K1) : rowE (G1 i) (K1 12) := sorry
-- 77.rel.lean.txt
abbrev coE (G K : GG) (pg : Int) : Prop := K 18 0 = G pg 0 ∧ K 18 1 = G pg 1 ∧ K 18 2 = G pg 2 ∧ K 18 3 = G pg 3
theorem back_rel {G K : GG} {i c pg : Int} (hc : 0 ≤ c ∧ c < G i 13) (e : rowE (G i) (K 12)) (hp : coE G K pg) : backF K 12 c 18 = backF G i c pg := sorry
theorem us_rel {G K : GG} {i pg : Int} (h8 : 0 ≤ G i 13) (e : rowE (G i) (K 12)) (hp : coE G K pg) : min 30 (K 12 5 + K 18 0) = min 30 (G i 5 + G pg 0) ∧ min 30 (K 12 6 + K 18 1) = min 30 (G i 6 + G pg 1) ∧ min 30 (K 12 7 + K 18 2) = min 30 (G i 7 + G pg 2) ∧ min 30 (K 12 8 + K 18 3) = min 30 (G i 8 + G pg 3) := sorry
theorem canU_rel {G K : GG} {i pg a : Int} (h8 : 0 ≤ G i 13) (e : rowE (G i) (K 12)) (hp : coE G K pg) : canU K 12 18 a ↔ canU G i pg a := sorry
theorem can_rel {G K : GG} {i c pg : Int} (o : okN G i) (hc : 0 ≤ c ∧ c < G i 13) (e : rowE (G i) (K 12)) (hp : coE G K pg) : canSellM K c ↔ canSellP G i c pg := sorry
theorem rel_sale {G H K S : GG} {i c pg : Int} (h8 : 0 ≤ G i 13 ∧ G i 13 ≤ 8) (h14 : 0 ≤ G i 14) (hc : 0 ≤ c ∧ c < G i 13) (e : rowE (G i) (K 12)) (hp : coE G K pg) (h : saleP G i c pg H) (k : saleM K c S) : rowE (H i) (S 12) := sorry
theorem back_b {G : GG} {i c pg : Int} (o : okN G i) (hc : 0 ≤ c ∧ c < G i 13) (hco : ∀ k : Int, 0 ≤ k → k < 4 → 0 ≤ G pg k ∧ G pg k ≤ 9) (hcan : canSellP G i c pg) : 0 ≤ backF G i c pg ∧ backF G i c pg ≤ 3000 := sorry
theorem rel_sell {G G1 K S H : GG} {i c pg r : Int} (o : okN G i) (hc : 0 ≤ c ∧ c < G i 13) (hco : ∀ k : Int, 0 ≤ k → k < 4 → 0 ≤ G pg k ∧ G pg k ≤ 9) (e : rowE (G i) (K 12)) (hp : coE G K pg) (hcan : canSellP G i c pg) (h : sellP G i c pg r G1) (k1 : saleM K c S) (k2 : keepM S (kpG S 12) H) : rowE (G1 i) (H 12) ∧ r = (if canU K 12 18 (backF K 12 c 18) then backF K 12 c 18 else -10 - backF K 12 c 18) := sorry
theorem rowE_congr {g g2 h h2 : Row} (h8 : 0 ≤ g 13 ∧ g 13 ≤ 8) (h14 : g 14 ≤ 200) (e1 : ∀ y : Int, (0 ≤ y ∧ y < 15 + 12 * g 13) ∨ (111 ≤ y ∧ y < 311) → g2 y = g y) (e2 : ∀ y : Int, 0 ≤ y → y < 311 → h2 y = h y) (e : rowE g h) : rowE g2 h2 := sorry
theorem rowE_over {G K : GG} {i j : Int} {h : Row} (o : okN G j) (v : overP G i j K) (e : rowE (G j) h) : rowE (K i) h := sorry
theorem row_rel {i c : Int} : ∀ (n : Nat) {G K G1 : GG} {r r' : Int}, okN G i → (0 ≤ c ∧ c < G i 13) → i ≠ 10 → (∀ k : Int, 0 ≤ k → k < 4 → 0 ≤ G 10 k ∧ G 10 k ≤ 9) → rowE (G i) (K 12) → coE G K 10 → G i (15 + 12 * c + 1) ≤ n → salesP i c n G r G1 → rowM c (n + 1) K r' → r' = r := sorry
theorem sumF_dom {n : Int} {g h : Row} {w : Int} (hw : 0 ≤ w ∧ w < 12) (e : domE n g h) : ∀ k : Nat, (k : Int) ≤ n → sumF h w k = sumF g w k := sorry
theorem num_rel {G K : GG} {i k : Int} (o : okN G i) (e : rowE (G i) (K 12)) : numM K k = numF (G i) k := sorry
theorem foldT_eq {F F2 : Int → Int} : ∀ (n : Nat) (k h : Int), (∀ j : Int, k ≤ j → j < k + n → F2 j = F j) → foldT F2 n k h = foldT F n k h := sorry
theorem coilT_eq {m : Int} {g h2 : Row} (e : domE m g h2) : ∀ (n : Nat) (c h : Int), 0 ≤ c → c + n ≤ m → coilT h2 n c h = coilT g n c h := sorry
theorem digest_rel {G K : GG} {i len s : Int} (o : okN G i) (e : rowE (G i) (K 12)) : dgF (numM K) (K 12) len s = dgF (numF (G i)) (G i) len s := sorry
theorem fv_rel {g h : Row} (hw : ∀ d : Int, 0 ≤ d → d < g 13 → okW (g (15 + 12 * d + 10))) (e : domE (g 13) g h) (hneg : ∀ x, okW x → ¬ fcl (fB x) 3212836864 ≤ 0) : ∀ n : Nat, (n : Int) ≤ g 13 → fvM h n = (fvF g n).1 ∧ ((n = 0 ∧ fvF g n = (-1, 3212836864)) ∨ (0 ≤ (fvF g n).1 ∧ (fvF g n).1 < n ∧ (fvF g n).2 = fB (g (15 + 12 * (fvF g n).1 + 10)))) := sorry
-- 78.rel.lean.txt
theorem overP_out {G K : GG} {i j x y : Int} (h : overP G i j K) (hx : x ≠ i) : K x y = G x y := sorry
def savS (G H : GG) (d n : Int) : Prop := ((G 6 0 = 4 ∧ d = 1 ∧ n = 3) ∨ (G 6 0 < 4 ∧ d = 0 ∧ n = G 6 0)) ∧ H 6 0 = n + 1 ∧ (∀ y : Int, (0 ≤ y ∧ y < 15 + 12 * G 0 13) ∨ (111 ≤ y ∧ y < 312) → H (H 6 (n + 10)) y = G 0 y) ∧ ∀ k y : Int, 0 ≤ k → k < n → H (H 6 (k + 10)) y = G (G 6 (k + d + 10)) y
theorem save_spec {G H : GG} (v : okV G) (h8 : 0 ≤ G 0 13 ∧ G 0 13 ≤ 8) (h : saveP G H) : okV H ∧ ∃ d n : Int, savS G H d n := sorry
def savE (G H : GG) : Prop := H 11 4 = G 6 0 ∧ ∀ k : Int, 0 ≤ k → k < G 6 0 → rowE (G (G 6 (k + 10))) (fun y => H 15 (311 * k + y)) ∧ okN G (G 6 (k + 10)) ∧ (0 ≤ G (G 6 (k + 10)) 10 ∧ G (G 6 (k + 10)) 10 ≤ 100000)
def relR (G : GG) : Prop := okN G 0 ∧ (0 ≤ G 0 10 ∧ G 0 10 ≤ 100000) ∧ okV G ∧ okT G ∧ rowE (G 0) (G 12) ∧ savE G G ∧ G 11 6 = G 7 1 ∧ ∀ k : Int, 0 ≤ k → k < G 7 1 → G 16 k = G 8 k
theorem relR_M {G : GG} (r : relR G) : okM G := sorry
theorem relR_12 {G : GG} (r : relR G) : okN12 G := sorry
theorem relR_X {G : GG} (r : relR G) : okX G := sorry
theorem relR_4 {G : GG} (r : relR G) : 0 ≤ G 11 4 ∧ G 11 4 ≤ 4 := sorry
theorem relR_10 {G : GG} (r : relR G) : 0 ≤ G 12 10 ∧ G 12 10 ≤ 100000 := sorry
theorem relR_htu {G : GG} (r : relR G) : ∀ k : Int, 0 ≤ k → k < 4 → 0 ≤ G 12 (5 + k) ∧ G 12 (5 + k) ≤ 30 := sorry
theorem relR_s {G : GG} (r : relR G) : ∀ k : Int, 0 ≤ k → k < G 6 0 → okH (G (G 6 (k + 10))) := sorry
theorem okN_congr2 {G H : GG} {i j : Int} (o : okN G j) (h : ∀ y : Int, 0 ≤ y → y < 312 → H i y = G j y) : okN H i := sorry
theorem relR_frame {G B : GG} (r : relR G) (e0 : ∀ y : Int, 0 ≤ y → y < 312 → B 0 y = G 0 y) (e6 : ∀ x y : Int, 2 ≤ x → x ≤ 6 → B x y = G x y) (t : okT B) (e71 : B 7 1 = G 7 1) (e8 : ∀ y, B 8 y = G 8 y) (e12 : ∀ y : Int, 0 ≤ y → y < 311 → B 12 y = G 12 y) (e4 : B 11 4 = G 11 4) (e116 : B 11 6 = G 11 6) (e15 : ∀ y, B 15 y = G 15 y) (e16 : ∀ y, B 16 y = G 16 y) : relR B := sorry
theorem svR_congr {G A B : GG} (h4 : A 11 4 = G 11 4) (h12 : ∀ y, A 12 y = G 12 y) (h15 : ∀ y, A 15 y = G 15 y) (s : svR A B) : svR G B := sorry
theorem relR_save {G H B : GG} (r : relR G) (s : saveP G H) (a6 : ∀ x y : Int, 2 ≤ x → x ≤ 6 → B x y = H x y) (oN : okN B 0) (o10 : 0 ≤ B 0 10 ∧ B 0 10 ≤ 100000) (t : okT B) (e71 : B 7 1 = G 7 1) (e8 : ∀ y, B 8 y = G 8 y) (row : rowE (B 0) (B 12)) (sv : svR G B) (e116 : B 11 6 = G 11 6) (e16 : ∀ y, B 16 y = G 16 y) : relR B := sorry
theorem okT_b {G B : GG} (t : okT G) (h7 : ∀ y, B 7 y = G 7 y) (h8 : ∀ y, B 8 y = G 8 y) : okT B := sorry
theorem relR_undo {G A B : GG} (r : relR G) (h1 : 1 ≤ G 6 0) (c : overP (setG G 6 0 (G 6 0 - 1)) 0 (G 6 (G 6 0 + 9)) A) (b0 : ∀ x y : Int, x ≤ 8 → B x y = A x y) (e4 : B 11 4 = G 11 4 - 1) (e12 : ∀ y : Int, 0 ≤ y → y < 311 → B 12 y = G 15 (311 * (G 11 4 - 1) + y)) (e15 : ∀ y, B 15 y = G 15 y) (e116 : B 11 6 = G 11 6) (e16 : ∀ y, B 16 y = G 16 y) : relR B := sorry
theorem relR_ini : relR iniG := sorry
-- 79.rel.lean.txt
def St (G : GG) (B : Int → Int) (p : Int) : Prop := (∀ q : Int, 0 ≤ q → bA G q = B q) ∧ G 7 6 = p ∧ G 7 7 = -1
def Er (G : GG) (B : Int → Int) (e : Int) : Prop := (∀ q : Int, 0 ≤ q → bA G q = B q) ∧ G 7 7 = e
theorem bA_set {G : GG} {x y v : Int} (h : ¬ (x = 7 ∧ y = 1) ∧ x ≠ 8) (q : Int) : bA (setG G x y v) q = bA G q := sorry
theorem St_set {G : GG} {B : Int → Int} {p x y v : Int} (st : St G B p) (h : ¬ (x = 7 ∧ (y = 1 ∨ y = 6 ∨ y = 7)) ∧ x ≠ 8) : St (setG G x y v) B p := sorry
theorem Er_set {G : GG} {B : Int → Int} {p x y v : Int} (st : Er G B p) (h : ¬ (x = 7 ∧ (y = 1 ∨ y = 6 ∨ y = 7)) ∧ x ≠ 8) : Er (setG G x y v) B p := sorry
theorem St_go {G : GG} {B : Int → Int} {p r : Int} (st : St G B p) : St (setG G 7 6 r) B r := sorry
theorem St_er {G : GG} {B : Int → Int} {p r : Int} (st : St G B p) : Er (setG G 7 7 r) B r := sorry
theorem st_no {G : GG} {B : Int → Int} {p : Int} (st : St G B p) : Er (stG G) B p := sorry
theorem st_EE {G : GG} {B : Int → Int} {e : Int} (he : e ≠ -1) (er : Er G B e) : stG G = G := sorry
theorem sg_St {G : GG} {B : Int → Int} {p s : Int} (h0 : 0 ≤ p) (st : St G B p) (h : B p = s) : St (sgG G s) B (p + 1) := sorry
theorem sg_Er {G : GG} {B : Int → Int} {p s : Int} (h0 : 0 ≤ p) (st : St G B p) (h : ¬ B p = s) : Er (sgG G s) B p := sorry
theorem sg_EE {G : GG} {B : Int → Int} {e s : Int} (he : e ≠ -1) (er : Er G B e) : sgG G s = G := sorry
theorem dg_St {G : GG} {B : Int → Int} {p m : Int} (h0 : 0 ≤ p) (st : St G B p) (h : 48 ≤ B p ∧ B p ≤ 48 + m) : St (dgG G m) B (p + 1) ∧ dgV G m = B p - 48 := sorry
theorem dg_Er {G : GG} {B : Int → Int} {p m : Int} (h0 : 0 ≤ p) (st : St G B p) (h : ¬ (48 ≤ B p ∧ B p ≤ 48 + m)) : Er (dgG G m) B p := sorry
theorem dg_EE {G : GG} {B : Int → Int} {e m : Int} (he : e ≠ -1) (er : Er G B e) : dgG G m = G := sorry
theorem dg_6 {G : GG} {B : Int → Int} {p m : Int} (h0 : 0 ≤ p) (st : St G B p) (h : ¬ (48 ≤ B p ∧ B p ≤ 48 + m)) : dgG G m 7 6 = p := sorry
theorem n1_EE {G : GG} {B : Int → Int} {e : Int} (he : e ≠ -1) (er : Er G B e) : n1 G = G := sorry
theorem nu_EE {G : GG} {B : Int → Int} {e m : Int} (he : e ≠ -1) (er : Er G B e) : nuG G m = G := sorry
theorem n1_St {G : GG} {B : Int → Int} {p : Int} (h0 : 0 ≤ p) (st : St G B p) (h : fig (B p)) : St (n1 G) B (nQ B p) ∧ nuV G = nV B p := sorry
theorem nu_St {G : GG} {B : Int → Int} {p m : Int} (h0 : 0 ≤ p) (st : St G B p) (h : okNum B p m) : St (nuG G m) B (nQ B p) ∧ nuV G = nV B p := sorry
theorem nu_no {G : GG} {B : Int → Int} {p m v : Int} (h0 : 0 ≤ p) (st : St G B p) (h : ¬ okNum B p m) : Er (sgG (setG (nuG G m) 7 4 v) 59) B (fNum B p) := sorry
theorem co_St {G : GG} {B : Int → Int} {p k : Int} (h0 : 0 ≤ p) (st : St G B p) (h : B p = 44) (h2 : fig (B (p + 1))) : St (coS G k) B (p + 2) ∧ coS G k 9 k = B (p + 1) - 48 := sorry
theorem co_Er1 {G : GG} {B : Int → Int} {p k : Int} (h0 : 0 ≤ p) (st : St G B p) (h : ¬ B p = 44) : Er (coS G k) B p := sorry
theorem co_Er2 {G : GG} {B : Int → Int} {p k : Int} (h0 : 0 ≤ p) (st : St G B p) (h : B p = 44) (h2 : ¬ fig (B (p + 1))) : Er (coS G k) B (p + 1) := sorry
theorem co_EE {G : GG} {B : Int → Int} {e k : Int} (he : e ≠ -1) (er : Er G B e) : Er (coS G k) B e := sorry
theorem coS_ne {G : GG} {k x y : Int} (h : ¬ (x = 7 ∧ (y = 6 ∨ y = 7)) ∧ ¬ (x = 9 ∧ y = k)) : coS G k x y = G x y := sorry
theorem coG_4 (G : GG) : coG G 4 = coS (coS (coS (coS G 0) 1) 2) 3 := sorry
theorem co4_St {G : GG} {B : Int → Int} {p : Int} (h0 : 0 ≤ p) (st : St G B p) (h : okCo B p) : St (coG G 4) B (p + 8) ∧ ∀ k : Int, 0 ≤ k → k < 4 → coG G 4 9 k = B (p + 2 * k + 1) - 48 := sorry
theorem co4_no {G : GG} {B : Int → Int} {p : Int} (h0 : 0 ≤ p) (st : St G B p) (h : ¬ okCo B p) : Er (coG G 4) B (fCo B p) := sorry
theorem roA_St {G : GG} {B : Int → Int} {p : Int} (st : St G B p) : St (roA G) B (p + 1) := sorry
theorem roB_St {G : GG} {B : Int → Int} {p m : Int} (h0 : 0 ≤ p) (st : St G B p) (h : 48 ≤ B (p + 1) ∧ B (p + 1) ≤ 48 + m) : St (roB G m) B (p + 2) ∧ roB G m 7 3 = B (p + 1) - 48 := sorry
theorem roB_no {G : GG} {B : Int → Int} {p m : Int} (h0 : 0 ≤ p) (st : St G B p) (h : ¬ (48 ≤ B (p + 1) ∧ B (p + 1) ≤ 48 + m)) : Er (roB G m) B (p + 1) := sorry
theorem roS_St {G : GG} {B : Int → Int} {p m n d : Int} (h0 : 0 ≤ p) (hd : d = 48 + m) (st : St G B p) (h : okSt B p d n) : St (sgG (roS G m n) 59) B (nQ B (p + 3) + 1) ∧ roS G m n 7 3 = B (p + 1) - 48 ∧ roS G m n 7 4 = nV B (p + 3) := sorry
theorem roS_no {G : GG} {B : Int → Int} {p m n d : Int} (h0 : 0 ≤ p) (hd : d = 48 + m) (st : St G B p) (h : ¬ okSt B p d n) : Er (sgG (roS G m n) 59) B (flSt B p d n) := sorry
theorem roH_St {G : GG} {B : Int → Int} {p : Int} (h0 : 0 ≤ p) (st : St G B p) (h : okHr B p) : St (sgG (roH G) 59) B (nQ B (p + 1) + 1) ∧ roH G 7 4 = nV B (p + 1) := sorry
theorem roH_no {G : GG} {B : Int → Int} {p : Int} (h0 : 0 ≤ p) (st : St G B p) (h : ¬ okHr B p) : Er (sgG (roH G) 59) B (flHr B p) := sorry
theorem roU_St {G : GG} {B : Int → Int} {p : Int} (h0 : 0 ≤ p) (st : St G B p) (h : okBu B p) : St (sgG (coG (roB G 7) 4) 59) B (p + 11) ∧ coG (roB G 7) 4 7 3 = B (p + 1) - 48 ∧ ∀ k : Int, 0 ≤ k → k < 4 → coG (roB G 7) 4 9 k = B (p + 2 * k + 3) - 48 := sorry
theorem roU_no {G : GG} {B : Int → Int} {p : Int} (h0 : 0 ≤ p) (st : St G B p) (h : ¬ okBu B p) : Er (sgG (coG (roB G 7) 4) 59) B (flBu B p) := sorry
theorem roG_at {G : GG} {B : Int → Int} {p : Int} (st : St G B p) (hl : p < G 7 1) : roG G = sgG (roD G) 59 := sorry
theorem roD_2 {G : GG} : roD G 7 2 = bA G (G 7 6) := sorry
theorem ro_ok {G : GG} {B : Int → Int} {p : Int} (h0 : 0 ≤ p) (st : St G B p) (hl : p < G 7 1) (o : okOrd B p) : St (roG G) B (nxt B p) ∧ roG G 7 2 = B p ∧ (B p ≠ 104 → roG G 7 3 = B (p + 1) - 48) ∧ (B p = 115 ∨ B p = 102 → roG G 7 4 = nV B (p + 3)) ∧ (B p = 104 → roG G 7 4 = nV B (p + 1)) ∧ (B p = 98 → ∀ k : Int, 0 ≤ k → k < 4 → roG G 9 k = B (p + 2 * k + 3) - 48) := sorry
theorem ro_no {G : GG} {B : Int → Int} {p : Int} (h0 : 0 ≤ p) (st : St G B p) (hl : p < G 7 1) (o : ¬ okOrd B p) : Er (roG G) B (flt B p) := sorry
theorem ro_len {G : GG} : roG G 7 1 = G 7 1 := sorry
theorem nxt_b (B : Int → Int) (p : Int) : p + 1 ≤ nxt B p := sorry
theorem er_rel {B : Int → Int} {len : Int} : ∀ (n : Nat) {G : GG} {p : Int}, 0 ≤ p → St G B p → G 7 1 = len → erL n G 7 7 = synE B len n p := sorry
theorem syn_end {B : Int → Int} {len : Int} : ∀ (n : Nat) (p : Int), len ≤ p → synE B len n p = -1 := sorry
theorem syn_eq {B : Int → Int} {len : Int} : ∀ (n m : Nat) (p : Int), len ≤ p + n → len ≤ p + m → synE B len n p = synE B len m p := sorry
theorem syn_ok {B : Int → Int} {len : Int} {n : Nat} {p : Int} (h0 : 0 ≤ p) (hp : p < len) (hn : len ≤ p + n) (h : synE B len n p = -1) : okOrd B p ∧ ∀ m : Nat, len ≤ nxt B p + m → synE B len m (nxt B p) = -1 := sorry
-- 80.rel.lean.txt
theorem setG_at (G : GG) (i y v : Int) : setG G i y v i = up (G i) y v := sorry
theorem rowE_up {g h : Row} {y v : Int} (h8 : 0 ≤ g 13 ∧ g 13 ≤ 8) (hy : (0 ≤ y ∧ y < 15 + 12 * g 13) ∧ y ≠ 13 ∧ y ≠ 14) (e : rowE g h) : rowE (up g y v) (up h y v) := sorry
theorem rowE_set {G K : GG} {i y v : Int} (h8 : 0 ≤ G i 13 ∧ G i 13 ≤ 8) (hy : (0 ≤ y ∧ y < 15 + 12 * G i 13) ∧ y ≠ 13 ∧ y ≠ 14) (e : rowE (G i) (K 12)) : rowE (setG G i y v i) (setG K 12 y v 12) := sorry
theorem row_8 {L : GG} {v : Int} : setG L 11 8 v 12 = L 12 := sorry
theorem fill_rel {G G1 K K1 : GG} {t n : Int} (o : okN G 0) (ht : 0 ≤ t ∧ t < 4) (hn : 0 ≤ n) (e : rowE (G 0) (K 12)) (h : keepP (fillG G 0 t n) 0 (kpG (fillG G 0 t n) 0) G1) (k : keepM (fillG K 12 t n) (kpG (fillG K 12 t n) 12) K1) : rowE (G1 0) (K1 12) := sorry
theorem obey_rel {R G1 L M : GG} {r a : Int} (o : okO R) (ob : ordP R) (e : rowE (R 0) (L 12)) (f2 : L 11 14 = R 7 2) (f3 : R 7 2 ≠ 104 → L 11 17 = R 7 3) (f4 : R 7 2 ≠ 98 → L 11 15 = R 7 4) (f9 : R 7 2 = 98 → ∀ k : Int, 0 ≤ k → k < 4 → L 18 k = R 9 k) (l8 : L 11 8 = 0) (h : obeyP R r G1) (d : doesM L a M) : rowE (G1 0) (M 12) ∧ ((r = 0 ∧ ¬ M 11 8 = 0) ∨ (r = 1 ∧ M 11 8 = 0)) := sorry
theorem obeyP_ne {R G1 : GG} {r x y : Int} (hx : x ≠ 0) (h : obeyP R r G1) : G1 x y = R x y := sorry
theorem coP_ne {x y : Int} (hx : x ≠ 0 ∧ x ≠ 7 ∧ x ≠ 9) : ∀ (n : Nat) {G G1 : GG} {r : Int}, coP n G r G1 → G1 x y = G x y := sorry
theorem roV_1 {G : GG} {B : Int → Int} {p : Int} (h0 : 0 ≤ p) (st : St G B p) (hl : p < G 7 1) (o : okOrd B p) : roV G = 1 := sorry
theorem roV_0 {G : GG} {B : Int → Int} {p : Int} (st : St G B p) (hl : ¬ p < G 7 1) : roV G = 0 := sorry
theorem co_rel {B : Int → Int} {len : Int} : ∀ (n f : Nat) {G K G1 H : GG} {p r r2 : Int}, 0 ≤ p → St G B p → G 7 1 = len → okO G → rowE (G 0) (K 12) → K 11 13 = p → K 11 8 = 0 → len ≤ p + n → (∀ m : Nat, len ≤ p + m → synE B len m p = -1) → coP n G r G1 → coM B len f K r2 H → r2 = r ∧ rowE (G1 0) (H 12) ∧ okO G1 ∧ G1 7 1 = len := sorry
-- 81.rel.lean.txt
def fits (k r2 : Int) (B : GG) : Prop := B 11 7 = k ∧ (k = 0 → B 21 0 = wI r2) ∧ relR B
def fr0 (G A : GG) : Prop := (∀ y : Int, 0 ≤ y → y < 312 → A 0 y = G 0 y) ∧ (∀ x y : Int, 2 ≤ x → x ≤ 8 → A x y = G x y) ∧ ∀ x y : Int, 11 ≤ x → x ≤ 20 → A x y = G x y
theorem fr0_rf {G : GG} {v : Int} : fr0 G (setG G 21 0 v) := sorry
theorem fr0_id {G : GG} : fr0 G G := sorry
theorem fr0_scr {G A : GG} {v : Int} (h : sameB (scr 0) G A) : fr0 G (setG A 21 0 v) := sorry
theorem fr0_R {G A : GG} (r : relR G) (f : fr0 G A) : relR A := sorry
theorem quiet_R {A B : GG} (r : relR A) (q : quiet A B) : relR B := sorry
theorem quiet_fit {G A B : GG} {k r2 : Int} (r : relR G) (f : fr0 G A) (q : quiet A B) (h7 : B 11 7 = k) (hv : k = 0 → A 21 0 = wI r2) : fits k r2 B := sorry
theorem face_no {G A H B : GG} {a r2 k : Int} (r : relR G) (f : fr0 G A) (h12 : ∀ y : Int, 0 ≤ y → y < 311 → H 12 y = A 12 y) (h8 : H 11 8 = k) (hk : ¬ k = 0) (q : finM A H a r2 B) : fits k r2 B := sorry
theorem face_yes {G S A H B : GG} {a r2 : Int} (r : relR G) (s : saveP G S) (aS : ∀ x y : Int, 2 ≤ x → x ≤ 8 → A x y = S x y) (aK : ∀ x y : Int, 11 ≤ x → x ≤ 20 → A x y = G x y) (oN : okN A 0) (o10 : 0 ≤ A 0 10 ∧ A 0 10 ≤ 100000) (h8 : H 11 8 = 0) (row : rowE (A 0) (H 12)) (q : finM A H a r2 B) : B 11 7 = 0 ∧ r2 = a ∧ B 21 0 = A 21 0 ∧ relR B := sorry
theorem save_0 {G S : GG} (r : relR G) (s : saveP G S) : S 0 = G 0 := sorry
theorem save_K {G S : GG} {x y : Int} (r : relR G) (s : saveP G S) (hx : 11 ≤ x) : S x y = G x y := sorry
theorem row_of {G A H8 : GG} (r : relR G) (hk : ∀ y, A 12 y = G 12 y) (h12 : ∀ y, H8 12 y = A 12 y) : rowE (G 0) (H8 12) := sorry
theorem face_set {G S A H8 H B : GG} {y v w a r2 : Int} (r : relR G) (s : saveP G S) (hA : A = setG (setG S 0 y v) 21 0 w) (hy : (0 ≤ y ∧ y < 15 + 12 * G 0 13) ∧ y ≠ 13 ∧ y ≠ 14 ∧ y ≠ 10) (oN : okN (setG S 0 y v) 0) (h12 : ∀ z, H8 12 z = A 12 z) (h8 : H8 11 8 = 0) (hH : H = setG H8 12 y v) (q : finM A H a r2 B) : B 11 7 = 0 ∧ r2 = a ∧ B 21 0 = w ∧ relR B := sorry
theorem okN_low {G : GG} {i w v : Int} (hw : (0 ≤ w ∧ w < 15) ∧ ¬ (5 ≤ w ∧ w < 9) ∧ w ≠ 13 ∧ w ≠ 14) (hs : okS (up (G i) w v)) (o : okN G i) : okN (setG G i w v) i := sorry
theorem okS_up {g : Row} {w v : Int} (hw : 5 ≤ w) (o : okS g) : okS (up g w v) := sorry
theorem okN_save {G S : GG} (r : relR G) (s : saveP G S) : okN S 0 := sorry
theorem f_set {ok : Prop} {G A B : GG} {w v k r2 : Int} (hok : ok → (0 ≤ w ∧ w ≤ 4) ∧ ∀ g, okS g → okS (up g w v)) (r : relR G) (h : (k = 0 ∧ ∃ a G2, (ok ∧ ∃ H, saveP G H ∧ a = G 0 w ∧ G2 = setG H 0 w v) ∧ A = setG G2 21 0 (wI a)) ∨ (k = 1 ∧ A = G ∧ ¬ ok)) (q : faceM A (setB w v ok) r2 B) : fits k r2 B := sorry
theorem f_stock {G A B : GG} {c n k r2 : Int} (r : relR G) (h : (k = 0 ∧ ∃ a G2, (((0 ≤ c ∧ c < G 0 13) ∧ (1 ≤ n ∧ n ≤ 20) ∧ (G 0 (15 + 12 * c + 1) + n ≤ 20)) ∧ ∃ H, saveP G H ∧ a = G 0 (15 + 12 * c + 1) + n ∧ G2 = setG H 0 (15 + 12 * c + 1) (G 0 (15 + 12 * c + 1) + n)) ∧ A = setG G2 21 0 (wI a)) ∨ (k = 1 ∧ A = G ∧ ¬ (0 ≤ c ∧ c < G 0 13)) ∨ (k = 2 ∧ A = G ∧ (0 ≤ c ∧ c < G 0 13) ∧ ¬ (1 ≤ n ∧ n ≤ 20)) ∨ (k = 3 ∧ A = G ∧ ((0 ≤ c ∧ c < G 0 13) ∧ (1 ≤ n ∧ n ≤ 20)) ∧ ¬ (G 0 (15 + 12 * c + 1) + n ≤ 20))) (q : faceM A (stockB c n) r2 B) : fits k r2 B := sorry
theorem okC_10 {g : Row} {c d v : Int} (hv : okW v) (o : okC g d) : okC (up g (15 + 12 * c + 10) v) d := sorry
theorem okN_10 {G : GG} {i c v : Int} (hc : 0 ≤ c ∧ c < 8) (hv : okW v) (o : okN G i) : okN (setG G i (15 + 12 * c + 10) v) i := sorry
theorem f_look {G A B : GG} {c k r2 : Int} (r : relR G) (h : (k = 0 ∧ ∃ a G2, ((0 ≤ c ∧ c < G 0 13) ∧ ∃ H, saveP G H ∧ a = G 0 (15 + 12 * c + 2) ∧ G2 = setG H 0 (15 + 12 * c + 10) (faddH (G 0 (15 + 12 * c + 10)))) ∧ A = setG G2 21 0 (wI a)) ∨ (k = 1 ∧ A = G ∧ ¬ (0 ≤ c ∧ c < G 0 13))) (q : faceM A (lookB c) r2 B) : fits k r2 B := sorry
theorem f_box {G A B : GG} {a r2 : Int} (r : relR G) (h : ∃ H, saveP G H ∧ a = G 0 9 ∧ A = setG H 0 9 0) (q : faceM A (fun G a H => a = G 12 9 ∧ H = setG G 12 9 0) r2 B) : r2 = a ∧ relR B := sorry
theorem f_fill {G A B : GG} {t n k r2 : Int} (r : relR G) (h : (k = 0 ∧ ∃ a G2, (((0 ≤ t ∧ t ≤ 3) ∧ (1 ≤ n ∧ n ≤ 30)) ∧ ∃ H, saveP G H ∧ a = min n (30 - G 0 (5 + t)) ∧ keepP (fillG H 0 t n) 0 (kpG (fillG H 0 t n) 0) G2) ∧ A = setG G2 21 0 (wI a)) ∨ (k = 1 ∧ A = G ∧ ¬ (0 ≤ t ∧ t ≤ 3)) ∨ (k = 2 ∧ A = G ∧ (0 ≤ t ∧ t ≤ 3) ∧ ¬ (1 ≤ n ∧ n ≤ 30))) (q : faceM A (fillB t n) r2 B) : fits k r2 B := sorry
theorem f_pass {G A B : GG} {n k r2 : Int} (r : relR G) (h : (k = 0 ∧ ∃ a G2, (((1 ≤ n ∧ n ≤ 48) ∧ (G 0 10 + n ≤ 100000)) ∧ ∃ H, saveP G H ∧ a = hoursR (G 0) n.toNat 12 - G 0 12 ∧ G2 = onR H 0 (hoursR (G 0) n.toNat)) ∧ A = setG G2 21 0 (wI a)) ∨ (k = 1 ∧ A = G ∧ ¬ (1 ≤ n ∧ n ≤ 48)) ∨ (k = 2 ∧ A = G ∧ (1 ≤ n ∧ n ≤ 48) ∧ ¬ (G 0 10 + n ≤ 100000))) (q : faceM A (passB n) r2 B) : fits k r2 B := sorry
-- 82.rel.lean.txt
theorem cb_ne {G : GG} {i c a b d x y : Int} (h : ¬ (x = i ∧ 15 + 12 * c ≤ y ∧ y < 15 + 12 * c + 12)) : coilBegin G i c a b d x y = G x y := sorry
theorem cb_at (G : GG) (i c a b d : Int) {k : Int} (hk : 0 ≤ k ∧ k < 12) : coilBegin G i c a b d i (15 + 12 * c + k) = (if k = 0 then a else if k = 2 ∨ k = 3 then b else if k = 4 then d else 0) := sorry
theorem ad_at {G : GG} {n k b d y : Int} (h8 : 0 ≤ n) : (setG (setG (setG (setG (setG G 12 (15 + 12 * n) k) 12 (15 + 12 * n + 3) b) 12 (15 + 12 * n + 4) d) 12 (15 + 12 * n + 2) b) 12 13 (n + 1)) 12 y = (if y = 13 then n + 1 else if y = 15 + 12 * n + 2 then b else if y = 15 + 12 * n + 4 then d else if y = 15 + 12 * n + 3 then b else if y = 15 + 12 * n then k else G 12 y) := sorry
theorem f_add {G A B : GG} {c b d k r2 : Int} (r : relR G) (h : (k = 0 ∧ ∃ a G2, (((0 ≤ c ∧ c ≤ 5) ∧ (5 ≤ b ∧ b ≤ 500 ∧ b % 5 = 0) ∧ (b ≤ d ∧ d ≤ 500 ∧ d % 5 = 0) ∧ (G 0 13 < 8)) ∧ ∃ H, saveP G H ∧ a = G 0 13 ∧ G2 = setG (coilBegin H 0 (G 0 13) c b d) 0 13 (G 0 13 + 1)) ∧ A = setG G2 21 0 (wI a)) ∨ (k = 1 ∧ A = G ∧ ¬ ((0 ≤ c ∧ c ≤ 5) ∧ (5 ≤ b ∧ b ≤ 500 ∧ b % 5 = 0) ∧ (b ≤ d ∧ d ≤ 500 ∧ d % 5 = 0))) ∨ (k = 2 ∧ A = G ∧ ((0 ≤ c ∧ c ≤ 5) ∧ (5 ≤ b ∧ b ≤ 500 ∧ b % 5 = 0) ∧ (b ≤ d ∧ d ≤ 500 ∧ d % 5 = 0)) ∧ ¬ (G 0 13 < 8))) (q : faceM A (addB c b d) r2 B) : fits k r2 B := sorry
theorem f_buy {G A B : GG} {c f t w d k r2 : Int} (r : relR G) (h : (k = 0 ∧ ∃ a G2, (((0 ≤ c ∧ c < G 0 13) ∧ ((0 ≤ f ∧ f ≤ 9) ∧ (0 ≤ t ∧ t ≤ 9) ∧ (0 ≤ w ∧ w ≤ 9) ∧ (0 ≤ d ∧ d ≤ 9)) ∧ canSellP (cinG G f t w d) 0 c 10) ∧ ∃ K1 H, sameB (scr 0) (cinG G f t w d) K1 ∧ saveP K1 H ∧ sellP H 0 c 10 a G2) ∧ A = setG G2 21 0 (wI a)) ∨ (k = 1 ∧ A = G ∧ ¬ (0 ≤ c ∧ c < G 0 13)) ∨ (k = 2 ∧ A = cinG G f t w d ∧ (0 ≤ c ∧ c < G 0 13) ∧ ¬ ((0 ≤ f ∧ f ≤ 9) ∧ (0 ≤ t ∧ t ≤ 9) ∧ (0 ≤ w ∧ w ≤ 9) ∧ (0 ≤ d ∧ d ≤ 9))) ∨ (k = 3 ∧ (0 ≤ c ∧ c < G 0 13) ∧ ((0 ≤ f ∧ f ≤ 9) ∧ (0 ≤ t ∧ t ≤ 9) ∧ (0 ≤ w ∧ w ≤ 9) ∧ (0 ≤ d ∧ d ≤ 9)) ∧ ¬ canSellP (cinG G f t w d) 0 c 10 ∧ sameB (scr 0) (cinG G f t w d) A)) (q : faceM A (buyA c f t w d) r2 B) : fits k r2 B := sorry
theorem f_coil {G A B : GG} {c w k r2 : Int} (r : relR G) (h : (k = 0 ∧ ∃ a G2, (((0 ≤ c ∧ c < G 0 13) ∧ (0 ≤ w ∧ w ≤ 9)) ∧ a = G 0 (15 + 12 * c + w) ∧ G2 = G) ∧ A = setG G2 21 0 (wI a)) ∨ (k = 1 ∧ A = G ∧ ¬ (0 ≤ c ∧ c < G 0 13)) ∨ (k = 2 ∧ A = G ∧ (0 ≤ c ∧ c < G 0 13) ∧ ¬ (0 ≤ w ∧ w ≤ 9))) (q : quiet A B ∧ ((¬ (0 ≤ c ∧ c < A 12 13) ∧ B 11 7 = 1) ∨ (((0 ≤ c ∧ c < A 12 13) ∧ ¬ (0 ≤ w ∧ w ≤ 9)) ∧ B 11 7 = 2) ∨ (((0 ≤ c ∧ c < A 12 13) ∧ (0 ≤ w ∧ w ≤ 9)) ∧ B 11 7 = 0 ∧ r2 = A 12 (15 + 12 * c + w)))) : fits k r2 B := sorry
theorem f_ask1 {G A B : GG} {ok : Prop} {k r2 v v2 : Int} (r : relR G) (h : (k = 0 ∧ ∃ a G2, (ok ∧ a = v ∧ fr0 G (setG G2 21 0 (wI a))) ∧ A = setG G2 21 0 (wI a)) ∨ (k = 1 ∧ A = G ∧ ¬ ok)) (hv : ok → v2 = v) (q : quiet A B ∧ ((¬ ok ∧ B 11 7 = 1) ∨ (ok ∧ B 11 7 = 0 ∧ r2 = v2))) : fits k r2 B := sorry
theorem f_ask2 {G A B : GG} {o1 o2 : Prop} {k r2 v v2 : Int} (r : relR G) (h : (k = 0 ∧ ∃ a G2, ((o1 ∧ o2) ∧ a = v ∧ fr0 G (setG G2 21 0 (wI a))) ∧ A = setG G2 21 0 (wI a)) ∨ (k = 1 ∧ fr0 G A ∧ ¬ o1) ∨ (k = 2 ∧ fr0 G A ∧ o1 ∧ ¬ o2)) (hv : o1 → o2 → v2 = v) (q : quiet A B ∧ ((¬ o1 ∧ B 11 7 = 1) ∨ (o1 ∧ ¬ o2 ∧ B 11 7 = 2) ∨ ((o1 ∧ o2) ∧ B 11 7 = 0 ∧ r2 = v2))) : fits k r2 B := sorry
theorem f_append {G A B : GG} {v k r2 : Int} (r : relR G) (h : (k = 0 ∧ ∃ a G2, (((0 ≤ v ∧ v ≤ 127) ∧ (G 7 1 < 100)) ∧ a = G 7 1 + 1 ∧ G2 = setG (setG G 8 (G 7 1) v) 7 1 (G 7 1 + 1)) ∧ A = setG G2 21 0 (wI a)) ∨ (k = 1 ∧ A = G ∧ ¬ (0 ≤ v ∧ v ≤ 127)) ∨ (k = 2 ∧ A = G ∧ (0 ≤ v ∧ v ≤ 127) ∧ ¬ (G 7 1 < 100))) (q : (¬ (0 ≤ v ∧ v ≤ 127) ∧ B 11 7 = 1 ∧ quiet A B) ∨ ((0 ≤ v ∧ v ≤ 127) ∧ A 11 6 = 100 ∧ B 11 7 = 2 ∧ quiet A B) ∨ (((0 ≤ v ∧ v ≤ 127) ∧ ¬ A 11 6 = 100) ∧ r2 = A 11 6 + 1 ∧ B 11 7 = 0 ∧ B 11 6 = A 11 6 + 1 ∧ B 16 (A 11 6) = v ∧ sameB (fun x y => (x = 11 ∧ (y = 6 ∨ y = 7)) ∨ (x = 16 ∧ y = A 11 6)) A B)) : fits k r2 B := sorry
theorem f_undo {G A B : GG} {k r2 : Int} (r : relR G) (h : (k = 0 ∧ ∃ a G2, ((1 ≤ G 6 0) ∧ a = G 6 0 - 1 ∧ overP (setG G 6 0 (G 6 0 - 1)) 0 (G 6 (G 6 0 + 9)) G2) ∧ A = setG G2 21 0 (wI a)) ∨ (k = 1 ∧ A = G ∧ ¬ (1 ≤ G 6 0))) (q : (A 11 4 = 0 ∧ B 11 7 = 1 ∧ quiet A B) ∨ (1 ≤ A 11 4 ∧ r2 = A 11 4 - 1 ∧ B 11 7 = 0 ∧ B 11 4 = A 11 4 - 1 ∧ (∀ y : Int, 0 ≤ y → y < 311 → B 12 y = A 15 (311 * (A 11 4 - 1) + y)) ∧ sameB (fun x y => x = 12 ∨ (x = 11 ∧ (y = 4 ∨ y = 7))) A B)) : fits k r2 B := sorry
theorem f_carry {G A B : GG} {a r2 : Int} (r : relR G) (h : ((erL 100 (stR G) 7 7) ≠ -1 ∧ a = -10 - (erL 100 (stR G) 7 7) ∧ A = (erL 100 (stR G))) ∨ ((erL 100 (stR G) 7 7) = -1 ∧ ∃ H, saveP (erL 100 (stR G)) H ∧ coP 100 (stR H) a A)) (q : (¬ synE (bM A) (A 11 6) 102 0 = -1 ∧ r2 = -10 - synE (bM A) (A 11 6) 102 0 ∧ B 11 7 = 0 ∧ quiet A B) ∨ (synE (bM A) (A 11 6) 102 0 = -1 ∧ ∃ H8 H, (∀ y, H8 12 y = A 12 y) ∧ H8 11 13 = 0 ∧ H8 11 8 = 0 ∧ coM (bM A) (A 11 6) 102 H8 r2 H ∧ (∀ y, B 12 y = H 12 y) ∧ B 11 7 = 0 ∧ svR A B ∧ sameB (fun x y => quS x y ∨ x = 15 ∨ (x = 11 ∧ y = 4)) A B)) : r2 = a ∧ relR B := sorry
/-! what the class leaves as it was; questions, on both sides -/
theorem k_set {ok : Prop} {G A : GG} {w v k : Int} (r : relR G) (h : (k = 0 ∧ ∃ a G2, (ok ∧ ∃ H, saveP G H ∧ a = G 0 w ∧ G2 = setG H 0 w v) ∧ A = setG G2 21 0 (wI a)) ∨ (k = 1 ∧ A = G ∧ ¬ ok)) : ∀ x y : Int, 11 ≤ x → x ≤ 20 → A x y = G x y := fun x y h0 h1 => by
  rcases h with ⟨-, a, G2, ⟨-, S, s, -, hG2⟩, hA⟩ | ⟨-, hA, -⟩
  · rw [hA, setG_ne (by omega), hG2, setG_ne (by omega), save_K r s h0]
  · rw [hA]
theorem k_stock {G A : GG} {c n k : Int} (r : relR G) (h : (k = 0 ∧ ∃ a G2, (((0 ≤ c ∧ c < G 0 13) ∧ (1 ≤ n ∧ n ≤ 20) ∧ (G 0 (15 + 12 * c + 1) + n ≤ 20)) ∧ ∃ H, saveP G H ∧ a = G 0 (15 + 12 * c + 1) + n ∧ G2 = setG H 0 (15 + 12 * c + 1) (G 0 (15 + 12 * c + 1) + n)) ∧ A = setG G2 21 0 (wI a)) ∨ (k = 1 ∧ A = G ∧ ¬ (0 ≤ c ∧ c < G 0 13)) ∨ (k = 2 ∧ A = G ∧ (0 ≤ c ∧ c < G 0 13) ∧ ¬ (1 ≤ n ∧ n ≤ 20)) ∨ (k = 3 ∧ A = G ∧ ((0 ≤ c ∧ c < G 0 13) ∧ (1 ≤ n ∧ n ≤ 20)) ∧ ¬ (G 0 (15 + 12 * c + 1) + n ≤ 20))) : ∀ x y : Int, 11 ≤ x → x ≤ 20 → A x y = G x y := fun x y h0 h1 => by
  rcases h with ⟨-, a, G2, ⟨-, S, s, -, hG2⟩, hA⟩ | ⟨-, hA, -⟩ | ⟨-, hA, -⟩ | ⟨-, hA, -⟩
  · rw [hA, setG_ne (by omega), hG2, setG_ne (by omega), save_K r s h0]
  · rw [hA]
  · rw [hA]
  · rw [hA]
theorem k_look {G A : GG} {c k : Int} (r : relR G) (h : (k = 0 ∧ ∃ a G2, ((0 ≤ c ∧ c < G 0 13) ∧ ∃ H, saveP G H ∧ a = G 0 (15 + 12 * c + 2) ∧ G2 = setG H 0 (15 + 12 * c + 10) (faddH (G 0 (15 + 12 * c + 10)))) ∧ A = setG G2 21 0 (wI a)) ∨ (k = 1 ∧ A = G ∧ ¬ (0 ≤ c ∧ c < G 0 13))) : ∀ x y : Int, 11 ≤ x → x ≤ 20 → A x y = G x y := fun x y h0 h1 => by
  rcases h with ⟨-, a, G2, ⟨-, S, s, -, hG2⟩, hA⟩ | ⟨-, hA, -⟩
  · rw [hA, setG_ne (by omega), hG2, setG_ne (by omega), save_K r s h0]
  · rw [hA]
theorem k_box {G A : GG} {a : Int} (r : relR G) (h : ∃ H, saveP G H ∧ a = G 0 9 ∧ A = setG H 0 9 0) : ∀ x y : Int, 11 ≤ x → x ≤ 20 → A x y = G x y := fun x y h0 h1 => by
  obtain ⟨S, s, -, hA⟩ := h
  rw [hA, setG_ne (by omega), save_K r s h0]
theorem k_fill {G A : GG} {t n k : Int} (r : relR G) (h : (k = 0 ∧ ∃ a G2, (((0 ≤ t ∧ t ≤ 3) ∧ (1 ≤ n ∧ n ≤ 30)) ∧ ∃ H, saveP G H ∧ a = min n (30 - G 0 (5 + t)) ∧ keepP (fillG H 0 t n) 0 (kpG (fillG H 0 t n) 0) G2) ∧ A = setG G2 21 0 (wI a)) ∨ (k = 1 ∧ A = G ∧ ¬ (0 ≤ t ∧ t ≤ 3)) ∨ (k = 2 ∧ A = G ∧ (0 ≤ t ∧ t ≤ 3) ∧ ¬ (1 ≤ n ∧ n ≤ 30))) : ∀ x y : Int, 11 ≤ x → x ≤ 20 → A x y = G x y := fun x y h0 h1 => by
  rcases h with ⟨-, a, G2, ⟨-, S, s, -, hG2⟩, hA⟩ | ⟨-, hA, -⟩ | ⟨-, hA, -⟩
  · rw [hA, setG_ne (by omega), hG2.2.2.2.2.2.2.2.2 x y (by omega)]
    unfold fillG
    rw [setG_ne (by omega), save_K r s h0]
  · rw [hA]
  · rw [hA]
theorem k_pass {G A : GG} {n k : Int} (r : relR G) (h : (k = 0 ∧ ∃ a G2, (((1 ≤ n ∧ n ≤ 48) ∧ (G 0 10 + n ≤ 100000)) ∧ ∃ H, saveP G H ∧ a = hoursR (G 0) n.toNat 12 - G 0 12 ∧ G2 = onR H 0 (hoursR (G 0) n.toNat)) ∧ A = setG G2 21 0 (wI a)) ∨ (k = 1 ∧ A = G ∧ ¬ (1 ≤ n ∧ n ≤ 48)) ∨ (k = 2 ∧ A = G ∧ (1 ≤ n ∧ n ≤ 48) ∧ ¬ (G 0 10 + n ≤ 100000))) : ∀ x y : Int, 11 ≤ x → x ≤ 20 → A x y = G x y := fun x y h0 h1 => by
  rcases h with ⟨-, a, G2, ⟨-, S, s, -, hG2⟩, hA⟩ | ⟨-, hA, -⟩ | ⟨-, hA, -⟩
  · rw [hA, setG_ne (by omega), hG2, onR_ne (by omega), save_K r s h0]
  · rw [hA]
  · rw [hA]
theorem k_add {G A : GG} {c b d k : Int} (r : relR G) (h : (k = 0 ∧ ∃ a G2, (((0 ≤ c ∧ c ≤ 5) ∧ (5 ≤ b ∧ b ≤ 500 ∧ b % 5 = 0) ∧ (b ≤ d ∧ d ≤ 500 ∧ d % 5 = 0) ∧ (G 0 13 < 8)) ∧ ∃ H, saveP G H ∧ a = G 0 13 ∧ G2 = setG (coilBegin H 0 (G 0 13) c b d) 0 13 (G 0 13 + 1)) ∧ A = setG G2 21 0 (wI a)) ∨ (k = 1 ∧ A = G ∧ ¬ ((0 ≤ c ∧ c ≤ 5) ∧ (5 ≤ b ∧ b ≤ 500 ∧ b % 5 = 0) ∧ (b ≤ d ∧ d ≤ 500 ∧ d % 5 = 0))) ∨ (k = 2 ∧ A = G ∧ ((0 ≤ c ∧ c ≤ 5) ∧ (5 ≤ b ∧ b ≤ 500 ∧ b % 5 = 0) ∧ (b ≤ d ∧ d ≤ 500 ∧ d % 5 = 0)) ∧ ¬ (G 0 13 < 8))) : ∀ x y : Int, 11 ≤ x → x ≤ 20 → A x y = G x y := fun x y h0 h1 => by
  rcases h with ⟨-, a, G2, ⟨-, S, s, -, hG2⟩, hA⟩ | ⟨-, hA, -⟩ | ⟨-, hA, -⟩
  · rw [hA, setG_ne (by omega), hG2, setG_ne (by omega), cb_ne (by omega), save_K r s h0]
  · rw [hA]
  · rw [hA]
theorem k_buy {G A : GG} {c f t w d k : Int} (r : relR G) (h : (k = 0 ∧ ∃ a G2, (((0 ≤ c ∧ c < G 0 13) ∧ ((0 ≤ f ∧ f ≤ 9) ∧ (0 ≤ t ∧ t ≤ 9) ∧ (0 ≤ w ∧ w ≤ 9) ∧ (0 ≤ d ∧ d ≤ 9)) ∧ canSellP (cinG G f t w d) 0 c 10) ∧ ∃ K1 H, sameB (scr 0) (cinG G f t w d) K1 ∧ saveP K1 H ∧ sellP H 0 c 10 a G2) ∧ A = setG G2 21 0 (wI a)) ∨ (k = 1 ∧ A = G ∧ ¬ (0 ≤ c ∧ c < G 0 13)) ∨ (k = 2 ∧ A = cinG G f t w d ∧ (0 ≤ c ∧ c < G 0 13) ∧ ¬ ((0 ≤ f ∧ f ≤ 9) ∧ (0 ≤ t ∧ t ≤ 9) ∧ (0 ≤ w ∧ w ≤ 9) ∧ (0 ≤ d ∧ d ≤ 9))) ∨ (k = 3 ∧ (0 ≤ c ∧ c < G 0 13) ∧ ((0 ≤ f ∧ f ≤ 9) ∧ (0 ≤ t ∧ t ≤ 9) ∧ (0 ≤ w ∧ w ≤ 9) ∧ (0 ≤ d ∧ d ≤ 9)) ∧ ¬ canSellP (cinG G f t w d) 0 c 10 ∧ sameB (scr 0) (cinG G f t w d) A)) : ∀ x y : Int, 11 ≤ x → x ≤ 20 → A x y = G x y := fun x y h0 h1 => by
  rcases h with ⟨-, a, G2, ⟨-, K1, S, sK, s, hs⟩, hA⟩ | ⟨-, hA, -⟩ | ⟨-, hA, -⟩ | ⟨-, -, -, -, hA⟩
  · have fK : fr0 G K1 := ⟨fun y h0 h1 => (sK 0 y (by omega)).trans (cinG_ne (by omega)), fun x y h0 h1 => (sK x y (by omega)).trans (cinG_ne (by omega)), fun x y h0 h1 => (sK x y (by omega)).trans (cinG_ne (by omega))⟩
    have rK := fr0_R r fK
    rw [hA, setG_ne (by omega), sell_ne (x := x) (y := y) hs (by omega) (by omega), save_K rK s h0]
    exact fK.2.2 x y h0 h1
  · rw [hA]
  · rw [hA, cinG_ne (by omega)]
  · rw [hA x y (by omega), cinG_ne (by omega)]
theorem k_coil {G A : GG} {c w k : Int} (r : relR G) (h : (k = 0 ∧ ∃ a G2, (((0 ≤ c ∧ c < G 0 13) ∧ (0 ≤ w ∧ w ≤ 9)) ∧ a = G 0 (15 + 12 * c + w) ∧ G2 = G) ∧ A = setG G2 21 0 (wI a)) ∨ (k = 1 ∧ A = G ∧ ¬ (0 ≤ c ∧ c < G 0 13)) ∨ (k = 2 ∧ A = G ∧ (0 ≤ c ∧ c < G 0 13) ∧ ¬ (0 ≤ w ∧ w ≤ 9))) : ∀ x y : Int, 11 ≤ x → x ≤ 20 → A x y = G x y := fun x y h0 h1 => by
  rcases h with ⟨-, a, G2, ⟨-, -, hG2⟩, hA⟩ | ⟨-, hA, -⟩ | ⟨-, hA, -⟩
  · rw [hA, setG_ne (by omega), hG2]
  · rw [hA]
  · rw [hA]
theorem k_append {G A : GG} {v k : Int} (r : relR G) (h : (k = 0 ∧ ∃ a G2, (((0 ≤ v ∧ v ≤ 127) ∧ (G 7 1 < 100)) ∧ a = G 7 1 + 1 ∧ G2 = setG (setG G 8 (G 7 1) v) 7 1 (G 7 1 + 1)) ∧ A = setG G2 21 0 (wI a)) ∨ (k = 1 ∧ A = G ∧ ¬ (0 ≤ v ∧ v ≤ 127)) ∨ (k = 2 ∧ A = G ∧ (0 ≤ v ∧ v ≤ 127) ∧ ¬ (G 7 1 < 100))) : ∀ x y : Int, 11 ≤ x → x ≤ 20 → A x y = G x y := fun x y h0 h1 => by
  rcases h with ⟨-, a, G2, ⟨-, -, hG2⟩, hA⟩ | ⟨-, hA, -⟩ | ⟨-, hA, -⟩
  · rw [hA, setG_ne (by omega), hG2, setG_ne (by omega), setG_ne (by omega)]
  · rw [hA]
  · rw [hA]
theorem k_undo {G A : GG} {k : Int} (r : relR G) (h : (k = 0 ∧ ∃ a G2, ((1 ≤ G 6 0) ∧ a = G 6 0 - 1 ∧ overP (setG G 6 0 (G 6 0 - 1)) 0 (G 6 (G 6 0 + 9)) G2) ∧ A = setG G2 21 0 (wI a)) ∨ (k = 1 ∧ A = G ∧ ¬ (1 ≤ G 6 0))) : ∀ x y : Int, 11 ≤ x → x ≤ 20 → A x y = G x y := fun x y h0 h1 => by
  rcases h with ⟨-, a, G2, ⟨-, -, hG2⟩, hA⟩ | ⟨-, hA, -⟩
  · rw [hA, setG_ne (by omega), overP_out hG2 (by omega), setG_ne (by omega)]
  · rw [hA]
theorem k_carry {G A : GG} {a : Int} (r : relR G) (h : ((erL 100 (stR G) 7 7) ≠ -1 ∧ a = -10 - (erL 100 (stR G) 7 7) ∧ A = (erL 100 (stR G))) ∨ ((erL 100 (stR G) 7 7) = -1 ∧ ∃ H, saveP (erL 100 (stR G)) H ∧ coP 100 (stR H) a A)) : ∀ x y : Int, 11 ≤ x → x ≤ 20 → A x y = G x y := fun x y h0 h1 => by
  rcases h with ⟨-, -, hA⟩ | ⟨-, S, s, hco⟩
  · rw [hA]
    exact (er_ne (by omega) 100 _).trans (stR_ne (by omega))
  · have v : okV (erL 100 (stR G)) := by
      have e : ∀ y, erL 100 (stR G) 6 y = G 6 y := fun y => (er_ne (by omega) 100 _).trans (stR_ne (by omega))
      unfold okV
      rw [e, e, e, e, e]
      exact r.2.2.1
    rw [coP_ne (by omega) 100 hco, stR_ne (by omega), saveP_ne v s (by omega)]
    exact (er_ne (by omega) 100 _).trans (stR_ne (by omega))
/-- what the reference's contracts ask -/
theorem aOk {G A : GG} (r : relR G) (k : ∀ x y : Int, 11 ≤ x → x ≤ 20 → A x y = G x y) : okN12 A ∧ okH (A 12) ∧ okP A 12 ∧ okMR A ∧ okX A ∧ (0 ≤ A 11 4 ∧ A 11 4 ≤ 4) ∧ (0 ≤ A 12 10 ∧ A 12 10 ≤ 100000) ∧ (∀ k : Int, 0 ≤ k → k < 4 → 0 ≤ A 12 (5 + k) ∧ A 12 (5 + k) ≤ 30) ∧ (0 ≤ A 12 13 ∧ A 12 13 ≤ 8) ∧ (0 ≤ A 12 14 ∧ A 12 14 ≤ 200) ∧ (0 ≤ A 11 6 ∧ A 11 6 ≤ 100) := by
  have e12 : A 12 = G 12 := funext fun y => k 12 y (by omega) (by omega)
  have oN : okN12 A := okN12_of (i := 12) (H := sh G) (relR_12 r) (fun y hy => by rw [sh_ne (by omega), e12])
  have oX : okX A := okX_congr (k 11 6 (by omega) (by omega)) (fun y => k 16 y (by omega) (by omega)) (relR_X r)
  have oH := okN12_H oN
  have oP := okN12_P oN
  exact ⟨oN, oH, oP, okN12_R oN, oX, by rw [k 11 4 (by omega) (by omega)]; exact relR_4 r, by rw [e12]; exact relR_10 r, oP.2.2, oH.2.1, oP.1, oX.1⟩
theorem k_tube {G A : GG} {t k : Int} (r : relR G) (h : (k = 0 ∧ ∃ a G2, ((0 ≤ t ∧ t ≤ 3) ∧ a = G 0 (5 + t) ∧ G2 = G) ∧ A = setG G2 21 0 (wI a)) ∨ (k = 1 ∧ A = G ∧ ¬ (0 ≤ t ∧ t ≤ 3))) : ∀ x y : Int, 11 ≤ x → x ≤ 20 → A x y = G x y := fun x y h0 h1 => by
  rcases h with ⟨-, a, G2, ⟨-, -, hG2⟩, hA⟩ | ⟨-, hA, -⟩
  · rw [hA, setG_ne (by omega), hG2]
  · rw [hA]
theorem f_tube {G A B : GG} {t k r2 : Int} (r : relR G) (h : (k = 0 ∧ ∃ a G2, ((0 ≤ t ∧ t ≤ 3) ∧ a = G 0 (5 + t) ∧ G2 = G) ∧ A = setG G2 21 0 (wI a)) ∨ (k = 1 ∧ A = G ∧ ¬ (0 ≤ t ∧ t ≤ 3))) (q : quiet A B ∧ ((¬ (0 ≤ t ∧ t ≤ 3) ∧ B 11 7 = 1) ∨ ((0 ≤ t ∧ t ≤ 3) ∧ B 11 7 = 0 ∧ r2 = A 12 (5 + t)))) : fits k r2 B := by
  have o8 := r.1.1.2.1
  have o14 := r.1.2.1.1
  have e := r.2.2.2.2.1
  have ak := k_tube r h
  have e12 : A 12 = G 12 := funext fun y => ak 12 y (by omega) (by omega)

  refine f_ask1 (ok := (0 ≤ t ∧ t ≤ 3)) (v := G 0 (5 + t)) (v2 := A 12 (5 + t)) r ?_ (fun hc => by rw [e12]; exact e.1 _ (by omega) (by omega)) q
  rcases h with ⟨hk, a, G2, ⟨hc, ha, hG2⟩, hA⟩ | h
  · exact Or.inl ⟨hk, a, G2, ⟨hc, ha, by rw [hG2]; exact fr0_rf⟩, hA⟩
  · exact Or.inr h
theorem k_value {G A : GG} {w k : Int} (r : relR G) (h : (k = 0 ∧ ∃ a G2, ((0 ≤ w ∧ w ≤ 10) ∧ a = numF (G 0) w ∧ G2 = G) ∧ A = setG G2 21 0 (wI a)) ∨ (k = 1 ∧ A = G ∧ ¬ (0 ≤ w ∧ w ≤ 10))) : ∀ x y : Int, 11 ≤ x → x ≤ 20 → A x y = G x y := fun x y h0 h1 => by
  rcases h with ⟨-, a, G2, ⟨-, -, hG2⟩, hA⟩ | ⟨-, hA, -⟩
  · rw [hA, setG_ne (by omega), hG2]
  · rw [hA]
theorem f_value {G A B : GG} {w k r2 : Int} (r : relR G) (h : (k = 0 ∧ ∃ a G2, ((0 ≤ w ∧ w ≤ 10) ∧ a = numF (G 0) w ∧ G2 = G) ∧ A = setG G2 21 0 (wI a)) ∨ (k = 1 ∧ A = G ∧ ¬ (0 ≤ w ∧ w ≤ 10))) (q : quiet A B ∧ ((¬ (0 ≤ w ∧ w ≤ 10) ∧ B 11 7 = 1) ∨ ((0 ≤ w ∧ w ≤ 10) ∧ B 11 7 = 0 ∧ r2 = numM A w))) : fits k r2 B := by
  have o8 := r.1.1.2.1
  have o14 := r.1.2.1.1
  have e := r.2.2.2.2.1
  have ak := k_value r h
  have e12 : A 12 = G 12 := funext fun y => ak 12 y (by omega) (by omega)

  refine f_ask1 (ok := (0 ≤ w ∧ w ≤ 10)) (v := numF (G 0) w) (v2 := numM A w) r ?_ (fun hc => by rw [numM_row e12]; exact num_rel r.1 e) q
  rcases h with ⟨hk, a, G2, ⟨hc, ha, hG2⟩, hA⟩ | h
  · exact Or.inl ⟨hk, a, G2, ⟨hc, ha, by rw [hG2]; exact fr0_rf⟩, hA⟩
  · exact Or.inr h
theorem k_setting {G A : GG} {w k : Int} (r : relR G) (h : (k = 0 ∧ ∃ a G2, ((0 ≤ w ∧ w ≤ 4) ∧ a = G 0 w ∧ G2 = G) ∧ A = setG G2 21 0 (wI a)) ∨ (k = 1 ∧ A = G ∧ ¬ (0 ≤ w ∧ w ≤ 4))) : ∀ x y : Int, 11 ≤ x → x ≤ 20 → A x y = G x y := fun x y h0 h1 => by
  rcases h with ⟨-, a, G2, ⟨-, -, hG2⟩, hA⟩ | ⟨-, hA, -⟩
  · rw [hA, setG_ne (by omega), hG2]
  · rw [hA]
theorem f_setting {G A B : GG} {w k r2 : Int} (r : relR G) (h : (k = 0 ∧ ∃ a G2, ((0 ≤ w ∧ w ≤ 4) ∧ a = G 0 w ∧ G2 = G) ∧ A = setG G2 21 0 (wI a)) ∨ (k = 1 ∧ A = G ∧ ¬ (0 ≤ w ∧ w ≤ 4))) (q : quiet A B ∧ ((¬ (0 ≤ w ∧ w ≤ 4) ∧ B 11 7 = 1) ∨ ((0 ≤ w ∧ w ≤ 4) ∧ B 11 7 = 0 ∧ r2 = A 12 w))) : fits k r2 B := by
  have o8 := r.1.1.2.1
  have o14 := r.1.2.1.1
  have e := r.2.2.2.2.1
  have ak := k_setting r h
  have e12 : A 12 = G 12 := funext fun y => ak 12 y (by omega) (by omega)

  refine f_ask1 (ok := (0 ≤ w ∧ w ≤ 4)) (v := G 0 w) (v2 := A 12 w) r ?_ (fun hc => by rw [e12]; exact e.1 _ (by omega) (by omega)) q
  rcases h with ⟨hk, a, G2, ⟨hc, ha, hG2⟩, hA⟩ | h
  · exact Or.inl ⟨hk, a, G2, ⟨hc, ha, by rw [hG2]; exact fr0_rf⟩, hA⟩
  · exact Or.inr h
theorem k_promise {G A : GG} {p k : Int} (r : relR G) (h : (k = 0 ∧ ∃ a G2, ((0 ≤ p ∧ p ≤ G 0 14 - 1) ∧ a = G 0 (111 + p) ∧ G2 = G) ∧ A = setG G2 21 0 (wI a)) ∨ (k = 1 ∧ A = G ∧ ¬ (0 ≤ p ∧ p ≤ G 0 14 - 1))) : ∀ x y : Int, 11 ≤ x → x ≤ 20 → A x y = G x y := fun x y h0 h1 => by
  rcases h with ⟨-, a, G2, ⟨-, -, hG2⟩, hA⟩ | ⟨-, hA, -⟩
  · rw [hA, setG_ne (by omega), hG2]
  · rw [hA]
theorem f_promise {G A B : GG} {p k r2 : Int} (r : relR G) (h : (k = 0 ∧ ∃ a G2, ((0 ≤ p ∧ p ≤ G 0 14 - 1) ∧ a = G 0 (111 + p) ∧ G2 = G) ∧ A = setG G2 21 0 (wI a)) ∨ (k = 1 ∧ A = G ∧ ¬ (0 ≤ p ∧ p ≤ G 0 14 - 1))) (q : quiet A B ∧ ((¬ (0 ≤ p ∧ p ≤ A 12 14 - 1) ∧ B 11 7 = 1) ∨ ((0 ≤ p ∧ p ≤ A 12 14 - 1) ∧ B 11 7 = 0 ∧ r2 = A 12 (111 + p)))) : fits k r2 B := by
  have o8 := r.1.1.2.1
  have o14 := r.1.2.1.1
  have e := r.2.2.2.2.1
  have ak := k_promise r h
  have e12 : A 12 = G 12 := funext fun y => ak 12 y (by omega) (by omega)
  rw [e12, e.1 14 (by omega) (by omega)] at q
  refine f_ask1 (ok := (0 ≤ p ∧ p ≤ G 0 14 - 1)) (v := G 0 (111 + p)) (v2 := G 12 (111 + p)) r ?_ (fun hc => e.2.1 p hc.1 (by omega)) q
  rcases h with ⟨hk, a, G2, ⟨hc, ha, hG2⟩, hA⟩ | h
  · exact Or.inl ⟨hk, a, G2, ⟨hc, ha, by rw [hG2]; exact fr0_rf⟩, hA⟩
  · exact Or.inr h
theorem k_most {G A : GG} {b k : Int} (r : relR G) (h : (k = 0 ∧ ∃ a G2, ((0 ≤ b ∧ b ≤ 2000) ∧ a = mpF (G 0 5) (G 0 6) (G 0 7) (G 0 8) (b / 5).toNat ∧ sameB (scr 0) G G2) ∧ A = setG G2 21 0 (wI a)) ∨ (k = 1 ∧ A = G ∧ ¬ (0 ≤ b ∧ b ≤ 2000))) : ∀ x y : Int, 11 ≤ x → x ≤ 20 → A x y = G x y := fun x y h0 h1 => by
  rcases h with ⟨-, a, G2, ⟨-, -, hG2⟩, hA⟩ | ⟨-, hA, -⟩
  · rw [hA, setG_ne (by omega), hG2 x y (by omega)]
  · rw [hA]
theorem f_most {G A B : GG} {b k r2 : Int} (r : relR G) (h : (k = 0 ∧ ∃ a G2, ((0 ≤ b ∧ b ≤ 2000) ∧ a = mpF (G 0 5) (G 0 6) (G 0 7) (G 0 8) (b / 5).toNat ∧ sameB (scr 0) G G2) ∧ A = setG G2 21 0 (wI a)) ∨ (k = 1 ∧ A = G ∧ ¬ (0 ≤ b ∧ b ≤ 2000))) (q : quiet A B ∧ ((¬ (0 ≤ b ∧ b ≤ 2000) ∧ B 11 7 = 1) ∨ ((0 ≤ b ∧ b ≤ 2000) ∧ B 11 7 = 0 ∧ r2 = mpF (A 12 5) (A 12 6) (A 12 7) (A 12 8) (b / 5).toNat))) : fits k r2 B := by
  have o8 := r.1.1.2.1
  have o14 := r.1.2.1.1
  have e := r.2.2.2.2.1
  have ak := k_most r h
  have e12 : A 12 = G 12 := funext fun y => ak 12 y (by omega) (by omega)

  refine f_ask1 (ok := (0 ≤ b ∧ b ≤ 2000)) (v := mpF (G 0 5) (G 0 6) (G 0 7) (G 0 8) (b / 5).toNat) (v2 := mpF (A 12 5) (A 12 6) (A 12 7) (A 12 8) (b / 5).toNat) r ?_ (fun hc => by rw [e12, e.1 5 (by omega) (by omega), e.1 6 (by omega) (by omega), e.1 7 (by omega) (by omega), e.1 8 (by omega) (by omega)]) q
  rcases h with ⟨hk, a, G2, ⟨hc, ha, hG2⟩, hA⟩ | h
  · exact Or.inl ⟨hk, a, G2, ⟨hc, ha, fr0_scr hG2⟩, hA⟩
  · exact Or.inr h
theorem k_coinFor {G A : GG} {b k : Int} (r : relR G) (h : (k = 0 ∧ ∃ a G2, ((0 ≤ b ∧ b ≤ 2000) ∧ a = cfF (G 0 5) (G 0 6) (G 0 7) (G 0 8) b ∧ sameB (scr 0) G G2) ∧ A = setG G2 21 0 (wI a)) ∨ (k = 1 ∧ A = G ∧ ¬ (0 ≤ b ∧ b ≤ 2000))) : ∀ x y : Int, 11 ≤ x → x ≤ 20 → A x y = G x y := fun x y h0 h1 => by
  rcases h with ⟨-, a, G2, ⟨-, -, hG2⟩, hA⟩ | ⟨-, hA, -⟩
  · rw [hA, setG_ne (by omega), hG2 x y (by omega)]
  · rw [hA]
theorem f_coinFor {G A B : GG} {b k r2 : Int} (r : relR G) (h : (k = 0 ∧ ∃ a G2, ((0 ≤ b ∧ b ≤ 2000) ∧ a = cfF (G 0 5) (G 0 6) (G 0 7) (G 0 8) b ∧ sameB (scr 0) G G2) ∧ A = setG G2 21 0 (wI a)) ∨ (k = 1 ∧ A = G ∧ ¬ (0 ≤ b ∧ b ≤ 2000))) (q : quiet A B ∧ ((¬ (0 ≤ b ∧ b ≤ 2000) ∧ B 11 7 = 1) ∨ ((0 ≤ b ∧ b ≤ 2000) ∧ B 11 7 = 0 ∧ r2 = cfF (A 12 5) (A 12 6) (A 12 7) (A 12 8) b))) : fits k r2 B := by
  have o8 := r.1.1.2.1
  have o14 := r.1.2.1.1
  have e := r.2.2.2.2.1
  have ak := k_coinFor r h
  have e12 : A 12 = G 12 := funext fun y => ak 12 y (by omega) (by omega)

  refine f_ask1 (ok := (0 ≤ b ∧ b ≤ 2000)) (v := cfF (G 0 5) (G 0 6) (G 0 7) (G 0 8) b) (v2 := cfF (A 12 5) (A 12 6) (A 12 7) (A 12 8) b) r ?_ (fun hc => by rw [e12, e.1 5 (by omega) (by omega), e.1 6 (by omega) (by omega), e.1 7 (by omega) (by omega), e.1 8 (by omega) (by omega)]) q
  rcases h with ⟨hk, a, G2, ⟨hc, ha, hG2⟩, hA⟩ | h
  · exact Or.inl ⟨hk, a, G2, ⟨hc, ha, fr0_scr hG2⟩, hA⟩
  · exact Or.inr h
theorem k_change {G A : GG} {b t k : Int} (r : relR G) (h : (k = 0 ∧ ∃ a G2, (((0 ≤ b ∧ b ≤ 2000) ∧ (0 ≤ t ∧ t ≤ 3)) ∧ a = chF (G 0 5) (G 0 6) (G 0 7) (G 0 8) b t ∧ sameB (scr 0) G G2) ∧ A = setG G2 21 0 (wI a)) ∨ (k = 1 ∧ A = G ∧ ¬ (0 ≤ b ∧ b ≤ 2000)) ∨ (k = 2 ∧ A = G ∧ (0 ≤ b ∧ b ≤ 2000) ∧ ¬ (0 ≤ t ∧ t ≤ 3))) : ∀ x y : Int, 11 ≤ x → x ≤ 20 → A x y = G x y := fun x y h0 h1 => by
  rcases h with ⟨-, a, G2, ⟨-, -, hG2⟩, hA⟩ | ⟨-, hA, -⟩ | ⟨-, hA, -⟩
  · rw [hA, setG_ne (by omega), hG2 x y (by omega)]
  · rw [hA]
  · rw [hA]
theorem f_change {G A B : GG} {b t k r2 : Int} (r : relR G) (h : (k = 0 ∧ ∃ a G2, (((0 ≤ b ∧ b ≤ 2000) ∧ (0 ≤ t ∧ t ≤ 3)) ∧ a = chF (G 0 5) (G 0 6) (G 0 7) (G 0 8) b t ∧ sameB (scr 0) G G2) ∧ A = setG G2 21 0 (wI a)) ∨ (k = 1 ∧ A = G ∧ ¬ (0 ≤ b ∧ b ≤ 2000)) ∨ (k = 2 ∧ A = G ∧ (0 ≤ b ∧ b ≤ 2000) ∧ ¬ (0 ≤ t ∧ t ≤ 3))) (q : quiet A B ∧ ((¬ (0 ≤ b ∧ b ≤ 2000) ∧ B 11 7 = 1) ∨ ((0 ≤ b ∧ b ≤ 2000) ∧ ¬ (0 ≤ t ∧ t ≤ 3) ∧ B 11 7 = 2) ∨ (((0 ≤ b ∧ b ≤ 2000) ∧ (0 ≤ t ∧ t ≤ 3)) ∧ B 11 7 = 0 ∧ r2 = chF (A 12 5) (A 12 6) (A 12 7) (A 12 8) b t))) : fits k r2 B := by
  have o8 := r.1.1.2.1
  have e := r.2.2.2.2.1
  have ak := k_change r h
  have e12 : A 12 = G 12 := funext fun y => ak 12 y (by omega) (by omega)
  refine f_ask2 (v := chF (G 0 5) (G 0 6) (G 0 7) (G 0 8) b t) (v2 := chF (A 12 5) (A 12 6) (A 12 7) (A 12 8) b t) r ?_ (fun _ _ => by rw [e12, e.1 5 (by omega) (by omega), e.1 6 (by omega) (by omega), e.1 7 (by omega) (by omega), e.1 8 (by omega) (by omega)]) q
  rcases h with ⟨hk, a, G2, ⟨hc, ha, hG2⟩, hA⟩ | ⟨hk, hA, hc⟩ | ⟨hk, hA, hc1, hc⟩
  · exact Or.inl ⟨hk, a, G2, ⟨hc, ha, fr0_scr hG2⟩, hA⟩
  · exact Or.inr (Or.inl ⟨hk, by rw [hA]; exact fr0_id, hc⟩)
  · exact Or.inr (Or.inr ⟨hk, by rw [hA]; exact fr0_id, hc1, hc⟩)
theorem k_priceIn {G A : GG} {c n k : Int} (r : relR G) (h : (k = 0 ∧ ∃ a G2, (((0 ≤ c ∧ c < G 0 13) ∧ (0 ≤ n ∧ n ≤ 48)) ∧ ∃ K, overP G 1 0 K ∧ a = hoursR (K 1) n.toNat (15 + 12 * c + 2) ∧ G2 = onR K 1 (hoursR (K 1) n.toNat)) ∧ A = setG G2 21 0 (wI a)) ∨ (k = 1 ∧ A = G ∧ ¬ (0 ≤ c ∧ c < G 0 13)) ∨ (k = 2 ∧ A = G ∧ (0 ≤ c ∧ c < G 0 13) ∧ ¬ (0 ≤ n ∧ n ≤ 48))) : ∀ x y : Int, 11 ≤ x → x ≤ 20 → A x y = G x y := fun x y h0 h1 => by
  rcases h with ⟨-, a, G2, ⟨-, K, ho, -, hG2⟩, hA⟩ | ⟨-, hA, -⟩ | ⟨-, hA, -⟩
  · rw [hA, setG_ne (by omega), hG2, onR_ne (by omega), overP_out ho (by omega)]
  · rw [hA]
  · rw [hA]
theorem f_priceIn {G A B : GG} {c n k r2 : Int} (r : relR G) (h : (k = 0 ∧ ∃ a G2, (((0 ≤ c ∧ c < G 0 13) ∧ (0 ≤ n ∧ n ≤ 48)) ∧ ∃ K, overP G 1 0 K ∧ a = hoursR (K 1) n.toNat (15 + 12 * c + 2) ∧ G2 = onR K 1 (hoursR (K 1) n.toNat)) ∧ A = setG G2 21 0 (wI a)) ∨ (k = 1 ∧ A = G ∧ ¬ (0 ≤ c ∧ c < G 0 13)) ∨ (k = 2 ∧ A = G ∧ (0 ≤ c ∧ c < G 0 13) ∧ ¬ (0 ≤ n ∧ n ≤ 48))) (q : quiet A B ∧ ((¬ (0 ≤ c ∧ c < A 12 13) ∧ B 11 7 = 1) ∨ ((0 ≤ c ∧ c < A 12 13) ∧ ¬ (0 ≤ n ∧ n ≤ 48) ∧ B 11 7 = 2) ∨ (((0 ≤ c ∧ c < A 12 13) ∧ (0 ≤ n ∧ n ≤ 48)) ∧ B 11 7 = 0 ∧ r2 = hoursR (A 12) n.toNat (15 + 12 * c + 2)))) : fits k r2 B := by
  have o8 := r.1.1.2.1
  have e := r.2.2.2.2.1
  have ak := k_priceIn r h
  have e12 : A 12 = G 12 := funext fun y => ak 12 y (by omega) (by omega)
  rw [e12, e.1 13 (by omega) (by omega)] at q
  have hz := hoursR_dom r.1.1 e.1 n.toNat
  rcases h with ⟨hk, a, G2, ⟨hc, K, ho, ha, hG2⟩, hA⟩ | ⟨hk, hA, hc⟩ | ⟨hk, hA, hc1, hc⟩
  · refine f_ask2 (v := hoursR (K 1) n.toNat (15 + 12 * c + 2)) r (Or.inl ⟨hk, a, G2, ⟨hc, ha, ?_⟩, hA⟩) (fun _ _ => ?_) q
    · rw [hG2]
      exact ⟨fun y _ _ => by rw [setG_ne (by omega), onR_ne (by omega), overP_out ho (by omega)], fun x y _ _ => by rw [setG_ne (by omega), onR_ne (by omega), overP_out ho (by omega)], fun x y _ _ => by rw [setG_ne (by omega), onR_ne (by omega), overP_out ho (by omega)]⟩
    · have eK := rowE_over r.1 ho e
      have oK : okH (K 1) := okH_over ho r.1.1
      have k13 : K 1 13 = G 0 13 := ho.1 13 (by omega) (by omega)
      exact hoursR_dom oK eK.1 n.toNat (15 + 12 * c + 2) (by omega) (by omega)
  · exact f_ask2 (v := hoursR (G 12) n.toNat (15 + 12 * c + 2)) r (Or.inr (Or.inl ⟨hk, by rw [hA]; exact fr0_id, hc⟩)) (fun _ _ => rfl) q
  · exact f_ask2 (v := hoursR (G 12) n.toNat (15 + 12 * c + 2)) r (Or.inr (Or.inr ⟨hk, by rw [hA]; exact fr0_id, hc1, hc⟩)) (fun _ _ => rfl) q
theorem salesP_ne {i c x y : Int} (hx : x ≠ i) : ∀ (n : Nat) {G G1 : GG} {r : Int}, salesP i c n G r G1 → G1 x y = G x y
  | 0, G, G1, r, h => by rw [h.2]
  | n + 1, G, G1, r, h => by
    rcases h with ⟨-, -, hG⟩ | ⟨-, K, H, z, hs, hl, hr⟩
    · exact hG x y (fun q => hx q.1)
    · rw [salesP_ne hx n hr, sell_ne (x := x) (y := y) hl (fun q => hx q.1) (fun q => hx q.1)]
      exact hs x y (fun q => hx q.1)
theorem k_sales {G A : GG} {c b d k : Int} (r : relR G) (h : (k = 0 ∧ ∃ a G2, (((0 ≤ c ∧ c < G 0 13) ∧ ((0 ≤ b ∧ b ≤ 9) ∧ (0 ≤ d ∧ d ≤ 9))) ∧ ∃ K2, overP (cinG G 0 b 0 d) 1 0 K2 ∧ salesP 1 c 20 K2 a G2) ∧ A = setG G2 21 0 (wI a)) ∨ (k = 1 ∧ A = G ∧ ¬ (0 ≤ c ∧ c < G 0 13)) ∨ (k = 2 ∧ A = cinG G 0 b 0 d ∧ (0 ≤ c ∧ c < G 0 13) ∧ ¬ ((0 ≤ b ∧ b ≤ 9) ∧ (0 ≤ d ∧ d ≤ 9)))) : ∀ x y : Int, 11 ≤ x → x ≤ 20 → A x y = G x y := fun x y h0 h1 => by
  rcases h with ⟨-, a, G2, ⟨-, K, ho, hs⟩, hA⟩ | ⟨-, hA, -⟩ | ⟨-, hA, -⟩
  · rw [hA, setG_ne (by omega), salesP_ne (by omega) 20 hs, overP_out ho (by omega), cinG_ne (by omega)]
  · rw [hA]
  · rw [hA, cinG_ne (by omega)]
theorem f_sales {G A B : GG} {c b d k r2 : Int} (r : relR G) (h : (k = 0 ∧ ∃ a G2, (((0 ≤ c ∧ c < G 0 13) ∧ ((0 ≤ b ∧ b ≤ 9) ∧ (0 ≤ d ∧ d ≤ 9))) ∧ ∃ K2, overP (cinG G 0 b 0 d) 1 0 K2 ∧ salesP 1 c 20 K2 a G2) ∧ A = setG G2 21 0 (wI a)) ∨ (k = 1 ∧ A = G ∧ ¬ (0 ≤ c ∧ c < G 0 13)) ∨ (k = 2 ∧ A = cinG G 0 b 0 d ∧ (0 ≤ c ∧ c < G 0 13) ∧ ¬ ((0 ≤ b ∧ b ≤ 9) ∧ (0 ≤ d ∧ d ≤ 9)))) (q : quiet A B ∧ ((¬ (0 ≤ c ∧ c < A 12 13) ∧ B 11 7 = 1) ∨ ((0 ≤ c ∧ c < A 12 13) ∧ ¬ ((0 ≤ b ∧ b ≤ 9) ∧ (0 ≤ d ∧ d ≤ 9)) ∧ B 11 7 = 2) ∨ (((0 ≤ c ∧ c < A 12 13) ∧ ((0 ≤ b ∧ b ≤ 9) ∧ (0 ≤ d ∧ d ≤ 9))) ∧ B 11 7 = 0 ∧ ∃ K0, (∀ y, K0 12 y = A 12 y) ∧ (K0 18 0 = 0 ∧ K0 18 1 = b ∧ K0 18 2 = 0 ∧ K0 18 3 = d) ∧ rowM c 21 K0 r2))) : fits k r2 B := by
  have o8 := r.1.1.2.1
  have e := r.2.2.2.2.1
  have ak := k_sales r h
  have e12 : A 12 = G 12 := funext fun y => ak 12 y (by omega) (by omega)
  rw [e12, e.1 13 (by omega) (by omega)] at q
  obtain ⟨qq, q⟩ := q
  rcases h with ⟨hk, a, G2, ⟨hc, K, ho, hs⟩, hA⟩ | ⟨hk, hA, hc⟩ | ⟨hk, hA, hc1, hc⟩
  · rcases q with ⟨z, -⟩ | ⟨-, z, -⟩ | ⟨-, q7, K0, z12, zc, zr⟩
    · exact absurd hc.1 z
    · exact absurd hc.2 z
    · have c0 : ∀ y, cinG G 0 b 0 d 0 y = G 0 y := fun y => cinG_ne (by omega)
      have oc : okN (cinG G 0 b 0 d) 0 := okN_congr2 r.1 (fun y _ _ => c0 y)
      have eK0 : rowE (cinG G 0 b 0 d 0) (K0 12) := by
        rw [show cinG G 0 b 0 d 0 = G 0 from funext c0, show K0 12 = G 12 from funext z12]
        exact e
      have eK := rowE_over oc ho eK0
      have oK := okN_over ho oc
      have k13 : K 1 13 = G 0 13 := (ho.1 13 (by omega) (by omega)).trans (c0 13)
      have p10 : ∀ y, K 10 y = cinG G 0 b 0 d 10 y := fun y => overP_out ho (by omega)
      have hp : coE K K0 10 := by
        show K0 18 0 = K 10 0 ∧ K0 18 1 = K 10 1 ∧ K0 18 2 = K 10 2 ∧ K0 18 3 = K 10 3
        rw [p10, p10, p10, p10, cinG_0, cinG_1, cinG_2, cinG_3]
        exact zc
      have hco : ∀ k : Int, 0 ≤ k → k < 4 → 0 ≤ K 10 k ∧ K 10 k ≤ 9 := fun j j0 j1 => by
        have hj : j = 0 ∨ j = 1 ∨ j = 2 ∨ j = 3 := by omega
        rw [p10]
        rcases hj with rfl | rfl | rfl | rfl
        · rw [cinG_0]; omega
        · rw [cinG_1]; exact hc.2.1
        · rw [cinG_2]; omega
        · rw [cinG_3]; exact hc.2.2
      have st := (oK.1.2.2 c hc.1.1 (by omega)).1
      have z := row_rel 20 oK (by omega) (by omega) hco eK hp (by omega) hs zr
      have f : fr0 G A := by
        rw [hA]
        exact ⟨fun y _ _ => by rw [setG_ne (by omega), salesP_ne (by omega) 20 hs, overP_out ho (by omega), cinG_ne (by omega)], fun x y _ _ => by rw [setG_ne (by omega), salesP_ne (by omega) 20 hs, overP_out ho (by omega), cinG_ne (by omega)], fun x y _ _ => by rw [setG_ne (by omega), salesP_ne (by omega) 20 hs, overP_out ho (by omega), cinG_ne (by omega)]⟩
      exact quiet_fit r f qq (q7.trans hk.symm) (fun _ => by rw [hA, setG_same, z])
  · rcases q with ⟨-, q7⟩ | ⟨z, -⟩ | ⟨z, -⟩
    · subst hA
      exact quiet_fit r fr0_id qq (q7.trans hk.symm) (fun z => by omega)
    · exact absurd z hc
    · exact absurd z.1 hc
  · rcases q with ⟨z, -⟩ | ⟨-, -, q7⟩ | ⟨z, -⟩
    · exact absurd hc1 z
    · have f : fr0 G A := by
        rw [hA]
        exact ⟨fun y _ _ => cinG_ne (by omega), fun x y _ _ => cinG_ne (by omega), fun x y _ _ => cinG_ne (by omega)⟩
      exact quiet_fit r f qq (q7.trans hk.symm) (fun z => by omega)
    · exact absurd z.2 hc
theorem k_demand {G A : GG} {c k : Int} (r : relR G) (h : (k = 0 ∧ ∃ (a : UInt32) (G2 : GG), ((0 ≤ c ∧ c < G 0 13) ∧ a = fB (G 0 (15 + 12 * c + 10)) ∧ G2 = G) ∧ A = setG G2 22 0 ((FP.f2d a).toNat : Int)) ∨ (k = 1 ∧ A = G ∧ ¬ (0 ≤ c ∧ c < G 0 13))) : ∀ x y : Int, 11 ≤ x → x ≤ 20 → A x y = G x y := fun x y h0 h1 => by
  rcases h with ⟨-, a, G2, ⟨-, -, hG2⟩, hA⟩ | ⟨-, hA, -⟩
  · rw [hA, setG_ne (by omega), hG2]
  · rw [hA]
theorem f_demand {G A B : GG} {c k : Int} {r2 : UInt32} (r : relR G) (h : (k = 0 ∧ ∃ (a : UInt32) (G2 : GG), ((0 ≤ c ∧ c < G 0 13) ∧ a = fB (G 0 (15 + 12 * c + 10)) ∧ G2 = G) ∧ A = setG G2 22 0 ((FP.f2d a).toNat : Int)) ∨ (k = 1 ∧ A = G ∧ ¬ (0 ≤ c ∧ c < G 0 13))) (q : quiet A B ∧ ((¬ (0 ≤ c ∧ c < A 12 13) ∧ B 11 7 = 1) ∨ ((0 ≤ c ∧ c < A 12 13) ∧ B 11 7 = 0 ∧ r2 = fB (A 12 (15 + 12 * c + 10))))) : B 11 7 = k ∧ (k = 0 → (∃ w, okW w ∧ r2 = fB w) ∧ B 22 0 = ((FP.f2d r2).toNat : Int)) ∧ relR B := by
  have o8 := r.1.1.2.1
  have e := r.2.2.2.2.1
  have ak := k_demand r h
  have e12 : A 12 = G 12 := funext fun y => ak 12 y (by omega) (by omega)
  rw [e12, e.1 13 (by omega) (by omega)] at q
  obtain ⟨qq, q⟩ := q
  rcases h with ⟨hk, a, G2, ⟨hc, ha, hG2⟩, hA⟩ | ⟨hk, hA, hc⟩
  · rcases q with ⟨z, -⟩ | ⟨-, q7, qr⟩
    · exact absurd hc z
    · have f : fr0 G A := by
        rw [hA, hG2]
        exact ⟨fun y _ _ => setG_ne (by omega), fun x y _ _ => setG_ne (by omega), fun x y _ _ => setG_ne (by omega)⟩
      have eg := e.1 (15 + 12 * c + 10) (by omega) (by omega)
      have ow : okW (G 0 (15 + 12 * c + 10)) := (r.1.1.2.2 c hc.1 hc.2).2.2.2.2.2.2.2.1
      refine ⟨q7.trans hk.symm, fun _ => ⟨⟨G 0 (15 + 12 * c + 10), ow, by rw [qr, eg]⟩, ?_⟩, quiet_R (fr0_R r f) qq⟩
      rw [qq.2 22 0 (by omega), hA, setG_same, ha, qr, eg]
  · rcases q with ⟨-, q7⟩ | ⟨z, -⟩
    · subst hA
      exact ⟨q7.trans hk.symm, fun z => by omega, quiet_R r qq⟩
    · exact absurd z hc
theorem f_favorite {G B : GG} {r2 : Int} (r : relR G) (hneg : ∀ x, okW x → ¬ fcl (fB x) 3212836864 ≤ 0) (q : quiet G B ∧ B 11 7 = 0 ∧ r2 = fvM (G 12) (G 12 13).toNat) : r2 = (fvF (G 0) (G 0 13).toNat).1 ∧ relR B := by
  have o8 := r.1.1.2.1
  have e := r.2.2.2.2.1
  refine ⟨?_, quiet_R r q.1⟩
  rw [q.2.2, e.1 13 (by omega) (by omega)]
  exact (fv_rel (fun d d0 d1 => (r.1.1.2.2 d d0 d1).2.2.2.2.2.2.2.1) e.1 hneg (G 0 13).toNat (by omega)).1
theorem f_digest {G B : GG} {a r2 : Int} (r : relR G) (h : a = dgF (numF (G 0)) (G 0) (G 7 1) (G 6 0)) (q : r2 = dgF (numM G) (G 12) (G 11 6) (G 11 4) ∧ quiet G B ∧ B 11 7 = 0) : a = r2 ∧ relR B := by
  refine ⟨?_, quiet_R r q.2.1⟩
  rw [h, q.1, r.2.2.2.2.2.2.1, r.2.2.2.2.2.1.1, digest_rel r.1 r.2.2.2.2.1]
end
