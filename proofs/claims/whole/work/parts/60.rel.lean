/-! PHASE 2: the relation between the class's memory and the reference's, pure. U: the class's cells seen from a base; V: the reference's arrays seen by a side. -/
def mixI (a b : Int32) : Int32 := (((a * 31) + b) * 739982445) ^^^ (jushr (((a * 31) + b) * 739982445) 15)
def byI (v x : Int32) : Int32 := (jushr v (8 * x)) &&& 255
/-- sizes, numbers, epochs of the eight messages by their places in the transcript -/
def szP (pl p : Nat) : Nat := if p = 0 ∨ p = 2 then 8 else if p = 4 then 6 else if p = 5 then pl else 4
def noP (p : Nat) : Nat := if p = 2 then 1 else if p = 7 then 2 else if p < 2 then 0 else p - 2
def epP (p : Nat) : Nat := if p < 4 then 0 else 2
def ctP (r s ck sD cD : Int32) (p i : Nat) : Int32 := match p with
  | 0 => if i < 4 then byI r (nI i) else 0
  | 1 => byI ck (nI i)
  | 2 => if i < 4 then byI r (nI i) else byI ck (nI (i - 4))
  | 3 => byI (mixI (s + 1) r) (nI i)
  | 4 => mixI r (nI i) &&& 255
  | 5 => mixI (s + 2) (nI i) &&& 255
  | 6 => byI sD (nI i)
  | _ => byI cD (nI i)
def tel (f : Nat → Int32) (t : Int32) : Nat → Int32
  | 0 => t
  | i + 1 => ((tel f t i * 31) + f i) + 1
def tdP (ct : Nat → Nat → Int32) (sz : Nat → Nat) : Nat → Int32
  | 0 => 0
  | p + 1 => tel (ct p) (tdP ct sz p) (sz p)
def rS (sd : Int32) : Int32 := mixI sd 1
def sS (sd : Int32) : Int32 := mixI sd 2
def ckS (sd : Int32) : Int32 := mixI (sS sd) (rS sd)
def plS (sd : Int32) : Nat := 12 + sd.toBitVec.toNat % 32
def SZ (sd : Int32) (p : Nat) : Nat := szP (plS sd) p
def sDS (sd : Int32) : Int32 := mixI (tdP (ctP (rS sd) (sS sd) (ckS sd) 0 0) (SZ sd) 6) 2
def cDS (sd : Int32) : Int32 := mixI (tdP (ctP (rS sd) (sS sd) (ckS sd) (sDS sd) 0) (SZ sd) 7) 1
def CT (sd : Int32) (p i : Nat) : Int32 := ctP (rS sd) (sS sd) (ckS sd) (sDS sd) (cDS sd) p i
def TD (sd : Int32) (n : Nat) : Int32 := tdP (CT sd) (SZ sd) n
/-! views -/
def stA (a : Nat) : Nat := match a with
  | 12 => 1 | 13 => 1 | 14 => 4 | 15 => 4 | 16 => 64 | 17 => 1 | 18 => 8 | 19 => 8 | 20 => 1 | 21 => 1 | 22 => 12 | 23 => 12 | 24 => 12 | 25 => 1 | 26 => 80 | 27 => 80 | 28 => 80 | 29 => 1 | 30 => 1 | 31 => 1 | 33 => 60 | 34 => 1 | _ => 0
def vw (M2 : mM) (s : Nat) : mM := fun a j => if j < stA a then M2 a (stA a * s + j) else 0
def uw (M : mM) (cb w : Nat) : mM := fun i j => if i < w then M (cb + i) j else 0
def nw (M : mM) : mM := fun k j => if 2 ≤ k ∧ k < 128 then M k j else 0
def nv (M2 : mM) : mM := fun a j => if (a = 1 ∧ (j = 8 ∨ j = 9)) ∨ (2 ≤ a ∧ a ≤ 11) then M2 a j else 0
/-! the net -/
def sender (f : Int32) (p : Nat) : Prop := (f = 0 ∧ (p = 0 ∨ p = 2 ∨ p = 7)) ∨ (f = 1 ∧ (p = 1 ∨ (3 ≤ p ∧ p ≤ 6)))
def pieceOK (sd : Int32) (f : Int32) (p q z : Nat) : Prop := sender f p ∧ 0 < z ∧ z ≤ 24 ∧ q + z ≤ SZ sd p ∧ (p ≠ 5 → q = 0 ∧ z = SZ sd p)
/-- a name: number a of epoch b -/
def nameR (c : Nat) (n e x : Int32) : Prop := ∃ a b : Nat, a ≤ c ∧ b ≤ 3 ∧ n = nI a ∧ e = nI b ∧ x = nI (4 * a + b)
def bodyR (sd : Int32) (c : Nat) (f k e w o l : Int32) (nE nN : Nat → Int32) (m6 m7 m1 : Int32) (ld : Nat → Int32) : Prop :=
  (k = 0 ∧ ∃ p q z : Nat, pieceOK sd f p q z ∧ w = nI p ∧ o = nI q ∧ l = nI z ∧ e = nI (epP p) ∧ m6 = nI (noP p) ∧ m7 = nI q ∧ m1 = nI z ∧ ∀ j, j < z → ld j = CT sd p (q + j)) ∨
  (k = 1 ∧ (e = 0 ∨ e = 2 ∨ e = 3) ∧ ∃ z : Nat, z ≤ 8 ∧ w = nI z ∧ m1 = nI z ∧ ∀ j, j < z → nameR c (nN j) (nE j) (ld j)) ∨
  (k = 2 ∧ e = 3 ∧ m1 = 1 ∧ ld 0 = w)
def recR (sd : Int32) (c : Nat) (U V : mM) (r i : Nat) : Prop :=
  (U r 2 = V 2 i ∧ U r 3 = V 3 i ∧ U r 4 = V 4 i ∧ U r 5 = V 5 i ∧ U r 8 = V 6 i) ∧ (V 2 i = 0 ∨ V 2 i = 1) ∧ (V 6 i = 0 ∨ V 6 i = 1) ∧ (∃ a : Nat, a ≤ c ∧ V 5 i = nI a) ∧
  bodyR sd c (V 2 i) (V 3 i) (V 4 i) (V 7 i) (V 8 i) (V 9 i) (fun j => V 10 (8 * i + j)) (fun j => V 11 (8 * i + j)) (U r 6) (U r 7) (U r 1) (U (r + 1))
def isRec (r : Nat) : Prop := r % 2 = 0 ∧ 4 ≤ r ∧ r ≤ 126
def rowsOK (R : mR) : Prop := (∀ i, i < 60 → isRec (R 3 i) ∧ R 3 i ≠ 6) ∧ (isRec (R 2 1) ∧ R 2 1 ≠ 6) ∧ (∀ i j, i < 60 → j < 60 → R 3 i = R 3 j → i = j) ∧ ∀ i, i < 60 → R 3 i ≠ R 2 1
def NetRel (sd : Int32) (c : Nat) (R : mR) (U V : mM) : Prop := rowsOK R ∧ U 2 4 = V 1 9 ∧ ∃ m : Nat, m ≤ 60 ∧ U 2 3 = nI m ∧ V 1 8 = nI m ∧ ∀ i, i < m → recR sd c U V (R 3 i) i
/-! a side: U cells from the side's object; V its own arrays; k the clock -/
def wrP (s t : Nat) : Nat := if t = 8 then 3 else if (if s = 0 then 4 else 7) ≤ t then 2 else 0
def rdP (s t : Nat) : Nat := if (if s = 0 then 7 else 8) ≤ t then 3 else if (if s = 0 then 4 else 7) ≤ t then 2 else 0
def stOK (s x t : Nat) : Prop := if s = 0 then (x = 0 ∧ t = 0) ∨ (x = 1 ∧ t = 1) ∨ (x = 2 ∧ 3 ≤ t ∧ t ≤ 6) ∨ (x = 3 ∧ t = 8) ∨ (x = 4 ∧ t = 8) ∨ (x = 5 ∧ (t = 0 ∨ t = 1 ∨ (3 ≤ t ∧ t ≤ 6) ∨ t = 8)) else (x = 0 ∧ t = 0) ∨ (x = 1 ∧ t = 7) ∨ (x = 2 ∧ t = 8) ∨ (x = 5 ∧ (t = 0 ∨ t = 7 ∨ t = 8))
def thrR (sd : Int32) (s : Nat) (U V : mM) : Prop := ∃ x t : Nat, stOK s x t ∧ U 0 9 = nI x ∧ V 12 0 = nI x ∧ V 13 0 = nI t ∧ U 0 10 = TD sd t ∧ U 0 11 = nI (wrP s t) ∧ U 0 12 = nI (rdP s t)
def nxtR (c : Nat) (U V : mM) : Prop := ∀ e, e < 4 → ∃ a : Nat, a ≤ c ∧ U 4 e = nI a ∧ V 14 e = nI a
def valR (U V : mM) : Prop := ∃ v : Nat, v ≤ 60 ∧ U 0 8 = nI v ∧ V 34 0 = nI v ∧ ∀ i, i < v → U 5 i = V 33 i
def notR (c : Nat) (U V : mM) : Prop := ∃ q : Nat, q ≤ 8 ∧ U 1 1 = nI q ∧ V 17 0 = nI q ∧ ∀ j, j < q → nameR c (V 19 j) (V 18 j) (U 2 j)
def ackR (k : Nat) (U V : mM) : Prop := (U 0 13 = 0 ∧ V 20 0 = -1) ∨ ∃ d : Nat, 1 ≤ d ∧ d ≤ 2 ∧ U 0 13 = nI d ∧ V 20 0 = nI (k + d)
def bitI (x : Int32) (d : Nat) : Prop := (jushr x (nI d)) &&& 1 = 1
def winR (c : Nat) (g sn G : Int32) (L : Nat → Int32) : Prop := g = G ∧ ((G = -1 ∧ sn = 0 ∧ ∀ j, j < 16 → L j = -1) ∨ ∃ a : Nat, a ≤ c ∧ G = nI a ∧ (∀ d, d < 16 → (bitI sn d ↔ d ≤ a ∧ L ((a - d) % 16) = nI (a - d))) ∧ ∀ j, j < 16 → L j = -1 ∨ ∃ x : Nat, x ≤ a ∧ x % 16 = j ∧ L j = nI x)
def winsR (c nf : Nat) (U V : mM) : Prop := ∀ e, e < 4 → winR c (U (8 + 3 * nf + e) 0) (U (8 + 3 * nf + e) 1) (V 15 e) (fun j => V 16 (16 * e + j))
def fragR (sd : Int32) (mt c s ag tm : Nat) (U V : mM) (j : Nat) : Prop := ∃ p q z sn : Nat, sender (nI s) p ∧ p ≠ 1 ∧ q < SZ sd p ∧ z = min mt (SZ sd p - q) ∧ (p ≠ 5 → q = 0) ∧ V 22 j = nI p ∧ V 23 j = nI q ∧ (V 24 j = 0 ∨ V 24 j = 1) ∧ U (8 + 3 * j) 7 = V 24 j ∧ U (8 + 3 * j) 2 = nI (noP p) ∧ U (8 + 3 * j) 3 = nI (epP p) ∧ U (8 + 3 * j) 4 = nI q ∧ U (8 + 3 * j) 5 = nI z ∧ (∀ i, i < z → U (9 + 3 * j) i = CT sd p (q + i)) ∧
  sn ≤ ag + 1 ∧ U (8 + 3 * j) 6 = nI sn ∧ ∀ x y : Nat, x ≤ 16 * 513 → y ≤ 3 → ((∃ i, i < sn ∧ U (10 + 3 * j) i = nI (4 * x + y)) ↔ ∃ t, t < tm ∧ V 28 t = nI j ∧ V 27 t = nI x ∧ V 26 t = nI y)
def flR (sd : Int32) (mt c s nf k : Nat) (U V : mM) : Prop := ∃ f : Nat, f ≤ nf ∧ U 6 1 = nI f ∧ V 21 0 = nI f ∧ (0 < f → ∃ ag tm w : Nat, ag ≤ 6 ∧ tm ≤ f * (ag + 1) ∧ (w = 4 ∨ w = 8 ∨ w = 16 ∨ w = 32) ∧ U 6 4 = nI ag ∧ V 31 0 = nI ag ∧ V 25 0 = nI tm ∧ U 6 2 = nI w ∧ V 29 0 = nI w ∧ ((∃ j, j < f ∧ V 24 j = 1) → ∃ d : Nat, 1 ≤ d ∧ d ≤ 32 ∧ U 6 3 = nI d ∧ V 30 0 = nI (k + d)) ∧
  (∀ t, t < tm → ∃ j x y : Nat, j < f ∧ x ≤ c ∧ y ≤ 3 ∧ V 28 t = nI j ∧ V 27 t = nI x ∧ V 26 t = nI y) ∧ ∀ j, j < f → fragR sd mt c s ag tm U V j)
def SideRel (sd : Int32) (mt c s nf k : Nat) (U V : mM) : Prop := (U 0 0 = nI s ∧ U 0 1 = nI mt) ∧ thrR sd s U V ∧ nxtR c U V ∧ valR U V ∧ notR c U V ∧ ackR k U V ∧ winsR c nf U V ∧ flR sd mt c s nf k U V
/-! the client's assembly and the messages' fixed parts -/
def asmS (sd : Int32) (m : Nat) : Nat := if m ≤ 1 then 0 else if m = 2 then 4 else if m = 3 then 10 else if m = 4 then 10 + plS sd else 14 + plS sd
def nxA (t : Nat) : Nat := if t ≤ 3 then 1 else if t = 8 then 5 else t - 2
def asmR (sd : Int32) (U : mM) (t : Nat) (hs : Nat → Int32) : Prop := U 21 2 = nI (nxA t) ∧ (∀ m, m < 6 → U 22 m = nI (asmS sd m)) ∧ (∀ p i, 3 ≤ p → p ≤ 6 → i < SZ sd p → (hs (48 * (p - 3) + i) = 1 ∧ U 23 (asmS sd (p - 2) + i) = CT sd p i) ∨ (hs (48 * (p - 3) + i) = 0 ∧ U 23 (asmS sd (p - 2) + i) = -1)) ∧ ∀ p i, 3 ≤ p → p ≤ 6 → SZ sd p ≤ i → i < 48 → hs (48 * (p - 3) + i) = 0
def cliR (sd : Int32) (U V : mM) (hs : Nat → Int32) : Prop := (∃ t : Nat, t ≤ 8 ∧ V 13 0 = nI t ∧ asmR sd U t hs) ∧ U 0 14 = rS sd ∧ (U 15 0 = 0 ∧ U 15 1 = 0) ∧ (U 17 0 = 1 ∧ U 17 1 = 0) ∧ (U 19 0 = 2 ∧ U 19 1 = 2) ∧ ∀ j, 4 ≤ j → j < 8 → U 16 j = 0
def srvR (sd : Int32) (U : mM) : Prop := U 0 14 = sS sd ∧ (U 39 0 = 0 ∧ U 39 1 = 0) ∧ (U 41 0 = 1 ∧ U 41 1 = 0) ∧ (U 43 0 = 2 ∧ U 43 1 = 2) ∧ (U 47 0 = 3 ∧ U 47 1 = 2) ∧ (U 45 0 = 4 ∧ U 45 1 = 2) ∧ U 0 13 = 0 ∧ (U 0 9 = 2 → U 6 1 = 0) ∧ (U 0 9 = 0 → U 35 0 = -1)
def conR (sd : Int32) (mt : Nat) (M2 : mM) : Prop := M2 1 0 = nI mt ∧ M2 1 1 = nI (plS sd) ∧ M2 1 2 = rS sd ∧ M2 1 3 = sS sd ∧ M2 1 4 = ckS sd ∧ M2 1 5 = sDS sd ∧ M2 1 6 = cDS sd
/-! layouts -/
def TC (pl k : Nat) : Nat × Nat :=
  if k = 1 then (10, 0) else if k = 2 then (4, 0) else if k = 3 then (102, 60) else if k < 128 then (if k % 2 = 0 then (3, 0) else (100, 24))
  else if k = 128 then (8, 0) else if k = 129 then (6, 0) else if k = 130 then (100, 8) else if k = 131 then (104, 4) else if k = 132 then (100, 4) else if k = 133 then (100, 60) else if k = 134 then (2, 0) else if k = 135 then (103, 1) else if k = 136 then (1, 0) else if k = 137 then (100, 24) else if k = 138 then (100, 7) else if k < 143 then (5, 0)
  else if k = 143 then (0, 0) else if k = 144 then (100, 8) else if k = 145 then (0, 0) else if k = 146 then (100, 8) else if k = 147 then (0, 0) else if k = 148 then (100, 4) else if k = 149 then (7, 0) else if k = 150 then (100, 6) else if k = 151 then (100, 14 + pl)
  else if k = 152 then (9, 0) else if k = 153 then (6, 0) else if k = 154 then (100, 8) else if k = 155 then (104, 4) else if k = 156 then (100, 4) else if k = 157 then (100, 60) else if k = 158 then (2, 0) else if k = 159 then (103, 9) else if k < 187 then (if k % 3 = 1 then (1, 0) else if k % 3 = 2 then (100, 24) else (100, 7)) else if k < 191 then (5, 0)
  else if k = 191 then (0, 0) else if k = 192 then (100, 4) else if k = 193 then (0, 0) else if k = 194 then (100, 4) else if k = 195 then (0, 0) else if k = 196 then (100, 6) else if k = 197 then (0, 0) else if k = 198 then (100, 4) else if k = 199 then (0, 0) else (100, pl)
def RC (k j : Nat) : Nat := match k with
  | 1 => if j = 0 then 2 else if j = 1 then 128 else if j = 2 then 152 else 0
  | 2 => if j = 0 then 3 else if j = 2 then 6 else 0
  | 128 => match j with | 2 => 2 | 3 => 134 | 4 => 129 | 5 => 131 | 6 => 132 | 7 => 133 | 15 => 143 | 16 => 145 | 17 => 147 | 18 => 149 | _ => 0
  | 129 => if j = 0 then 130 else 0
  | 131 => if j < 4 then 139 + j else 0
  | 134 => if j = 0 then 135 else 0
  | 135 => if j = 0 then 136 else 0
  | 136 => if j = 0 then 137 else if j = 1 then 138 else 0
  | 143 => if j = 2 then 144 else 0
  | 145 => if j = 2 then 146 else 0
  | 147 => if j = 2 then 148 else 0
  | 149 => if j = 0 then 150 else if j = 1 then 151 else 0
  | 152 => match j with | 2 => 2 | 3 => 158 | 4 => 153 | 5 => 155 | 6 => 156 | 7 => 157 | 15 => 191 | 16 => 193 | 17 => 195 | 18 => 199 | 19 => 197 | _ => 0
  | 153 => if j = 0 then 154 else 0
  | 155 => if j < 4 then 187 + j else 0
  | 158 => if j = 0 then 159 else 0
  | 159 => if j < 9 then 160 + 3 * j else 0
  | 191 => if j = 2 then 192 else 0
  | 193 => if j = 2 then 194 else 0
  | 195 => if j = 2 then 196 else 0
  | 197 => if j = 2 then 198 else 0
  | 199 => if j = 2 then 200 else 0
  | _ => if k < 128 then (if k % 2 = 0 ∧ j = 0 then k + 1 else 0) else if 160 ≤ k ∧ k < 187 ∧ k % 3 = 1 ∧ j < 2 then k + 1 + j else 0
def LC (sd : Int32) (T : mT) (R : mR) : Prop := (∀ k, 0 < k → k ≤ 200 → T k = TC (plS sd) k) ∧ ∀ k j, 0 < k → k ≤ 200 → k ≠ 3 → ¬ (k = 2 ∧ j = 1) → R k j = RC k j
def TM (k : Nat) : Nat × Nat := if k = 1 then (11, 0) else if k < 6 then (100, 60) else if k = 6 then (101, 60) else if k < 10 then (100, 60) else if k < 12 then (100, 480) else if k < 14 then (100, 2) else if k < 16 then (100, 8) else if k = 16 then (100, 128) else if k = 17 then (100, 2) else if k < 20 then (100, 16) else if k < 22 then (100, 2) else if k < 24 then (100, 24) else if k = 24 then (101, 24) else if k = 25 then (100, 2) else if k < 29 then (100, 160) else if k < 32 then (100, 2) else if k = 32 then (101, 192) else if k = 33 then (100, 120) else (100, 2)
def LM (T2 : mT) (R2 : mR) : Prop := (∀ k, 0 < k → k ≤ 34 → T2 k = TM k) ∧ ∀ j, 11 ≤ j → j ≤ 43 → R2 1 j = j - 9
/-- all of it: numbers are at most c, the clock is k -/
def SimP (sd : Int32) (mt k c : Nat) (R : mR) (M : mM) (M2 : mM) : Prop := (8 ≤ mt ∧ mt ≤ 24 ∧ k ≤ 512 ∧ c ≤ 8208) ∧ M2 1 7 = nI k ∧ conR sd mt M2 ∧ NetRel sd c R (nw M) (nv M2) ∧ SideRel sd mt c 0 1 k (uw M 128 24) (vw M2 0) ∧ SideRel sd mt c 1 9 k (uw M 152 49) (vw M2 1) ∧ cliR sd (uw M 128 24) (vw M2 0) (M2 32) ∧ srvR sd (uw M 152 49)
def Sim (c : Nat) (T : mT) (R : mR) (M : mM) (T2 : mT) (R2 : mR) (M2 : mM) : Prop := c ≤ 512 ∧ ∃ (sd : Int32) (mt k : Nat), k ≤ c ∧ LC sd T R ∧ LM T2 R2 ∧ SimP sd mt k (16 * c) R M M2
