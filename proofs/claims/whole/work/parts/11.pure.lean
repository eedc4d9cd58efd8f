/-! ===== the mathematics of a talk ===== -/
def nu (e : Nat → Int) (k : Nat) (v : Int) : Nat → Int := fun j => if j = k then v else e j
/-- the model's own fields -/
def mF (e : Nat → Int) : List AV := [vR 46, vR 47, vR 48, vR 49, vI (e 4), vI (e 5), vI (e 6), vI (e 7), vI (e 8), vI (e 9), vR 50, vI (e 11), vI (e 12), vI (e 13), vI (e 14), vR 51, vR 52, vI (e 17), vR 53, vR 54, vR 55, vR 56, vR 57]
def cnt (bk : Int → Int) (p w : Int) : Int :=
  if w = 0 then (if bk (4 + 4 * p) = 1 then 0 else if bk (4 + 4 * p) = 5 then bk (4 + 4 * p + 1 + w) + 20 else bk (4 + 4 * p + 1 + w))
  else if w = 1 then (if bk (4 + 4 * p) = 2 ∨ bk (4 + 4 * p) = 3 then bk (4 + 4 * p + 1 + w) + 3 else bk (4 + 4 * p + 1 + w))
  else (if bk (4 + 4 * p) = 3 then bk (4 + 4 * p + 1 + w) + 2 else if bk (4 + 4 * p) = 4 ∨ bk (4 + 4 * p) = 5 then 2 * bk (4 + 4 * p + 1 + w) else bk (4 + 4 * p + 1 + w))
theorem cnt_in {bk : Int → Int} (hb : Bd bk (-1) 255) (p w : Int) : -2 ≤ cnt bk p w ∧ cnt bk p w ≤ 510 := by
  have h1 := hb (4 + 4 * p)
  have h2 := hb (4 + 4 * p + 1 + w)
  unfold cnt
  repeat' split
  all_goals omega
def moreF (a b x y n : Int) : Int := if n ≤ x - y then a else if n ≤ y - x then b else -1
def lastB (bk : Int → Int) (a b : Int) : Int := bk (100 + if a < b then 8 * a + b else 8 * b + a)
/-- whom a courtesy names: A what p, O by to, Ls of two -/
def nameV (A O Ls : Int → Int → Int) (w n x y : Int) : Int :=
  if w < 6 then (if w % 2 = 0 ∨ moreF x y (A (w / 2) x) (A (w / 2) y) n = -1 then moreF x y (A (w / 2) x) (A (w / 2) y) n else x + y - moreF x y (A (w / 2) x) (A (w / 2) y) n)
  else if w = 6 then moreF x y (O y x) (O x y) n
  else if w = 7 then (if Ls x y = -1 then -1 else x + y - Ls x y) else if w = 8 then x else y
abbrev Ab (bk : Int → Int) : Int → Int → Int := fun w p => cnt bk p w
abbrev Ob (bk : Int → Int) : Int → Int → Int := fun x y => bk (36 + 8 * x + y)
abbrev Lb (bk : Int → Int) : Int → Int → Int := lastB bk
theorem moreF_in {a b x y n : Int} : moreF a b x y n = a ∨ moreF a b x y n = b ∨ moreF a b x y n = -1 := by
  unfold moreF; repeat' split
  all_goals omega
/-- the first from i on of which f says somebody -/
def scanI (many : Int) (f : Int → Int) : Nat → Int → Option Int
  | 0, _ => none
  | q + 1, i => if i < many then (if f i = -1 then scanI many f q (i + 1) else some i) else none
/-- rounds from k on: S k: the item that counts, whom it names, whether it ends the round -/
def talkG (S : Int → Option (Int × Int × Bool)) : Nat → Int → Int × Int × Int
  | 0, _ => (-1, 9, -1)
  | q + 1, k => match S k with
    | some (j, g, false) => (g, k, j)
    | _ => talkG S q (k + 1)
/-- in round k first comes x: whom item j names (struck ones, and those of later rounds: nobody) -/
def itemF (nm : Int → Int → Int → Int → Int) (it : Int → Int) (sk k x z j : Int) : Int := if it (4 * j) ≤ k ∧ bitI sk j = 0 then nm (it (4 * j + 2)) (it (4 * j + 3)) x z else -1
def roundF (nm : Int → Int → Int → Int → Int) (it : Int → Int) (many sk a b k : Int) : Option (Int × Int × Bool) :=
  (scanI many (itemF nm it sk k (if k % 2 = 1 then a else b) (a + b - (if k % 2 = 1 then a else b))) 9 0).map (fun j => (j, itemF nm it sk k (if k % 2 = 1 then a else b) (a + b - (if k % 2 = 1 then a else b)) j, decide (it (4 * j + 1) ≠ 0)))
def talkF (nm : Int → Int → Int → Int → Int) (it : Int → Int) (many sk a b : Int) : Int × Int × Int := talkG (roundF nm it many sk a b) 9 1

