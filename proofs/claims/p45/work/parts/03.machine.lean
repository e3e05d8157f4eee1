/-! THE PURE MACHINE: the methods of the tables over stores of ints, longs and references. A reference is (kind, length, number): its kind and its length stand in it, so they need no state. Kinds: 0 null; 1 .. 15 an object of that class (cnL); 20 int[], 21 long[], 22 byte[]; 23, 24, 25 arrays of Kind, Goose, Windows; 26 boolean[]; 27, 28, 29 arrays of Tree, int[], boolean[]; 30 an exception; 40 an enum constant (its number: its ordinal); 41 the array of all; 42 the switch's table; 43, 44 a written text and its bytes; 45 the script; 46 what is handed on unseen; 47 a constant array of texts; 48 a constant array of digits. -/
/-- ints, longs, references of cells by number and place; the next number; how many places all cells have -/
abbrev PH : Type := (Nat → Nat → Int32) × (Nat → Nat → Int64) × (Nat → Nat → VR) × Nat × Nat
abbrev LV : Type := List (Option VV)
abbrev Cf : Type := Nat × LV × List VV × PH
abbrev Rs : Type := Option VV ⊕ Nat
abbrev PStp : Type := Cf ⊕ ((Nat × List VV × Cf) ⊕ (Rs × PH))
def hI (h : PH) : Nat → Nat → Int32 := h.1
def hL (h : PH) : Nat → Nat → Int64 := h.2.1
def hR (h : PH) : Nat → Nat → VR := h.2.2.1
def hN (h : PH) : Nat := h.2.2.2.1
def hS (h : PH) : Nat := h.2.2.2.2
def up2 {α : Type} (f : Nat → Nat → α) (a k : Nat) (v : α) : Nat → Nat → α := fun x j => if x = a ∧ j = k then v else f x j
def setI (h : PH) (a k : Nat) (v : Int32) : PH := (up2 h.1 a k v, h.2)
def setL (h : PH) (a k : Nat) (v : Int64) : PH := (h.1, up2 h.2.1 a k v, h.2.2)
def setR (h : PH) (a k : Nat) (v : VR) : PH := (h.1, h.2.1, up2 h.2.2.1 a k v, h.2.2.2)
def grow (h : PH) (n : Nat) : PH := (h.1, h.2.1, h.2.2.1, h.2.2.2.1 + 1, h.2.2.2.2 + n)
/-- a copy of n ints from one array into another (or the same) -/
def cpyI (h : PH) (a sp b dp n : Nat) : PH := (fun x j => if x = b ∧ dp ≤ j ∧ j < dp + n then h.1 a (sp + (j - dp)) else h.1 x j, h.2)
/-- a copy of a written text's bytes -/
noncomputable def cpyS (h : PH) (k sp b dp n : Nat) : PH := (fun x j => if x = b ∧ dp ≤ j ∧ j < dp + n then sbyt k (sp + (j - dp)) else h.1 x j, h.2)
/-- a whole row of ints again -/
def cpyR (h : PH) (a b : Nat) : PH := (fun x j => if x = b then h.1 a j else h.1 x j, h.2)
/-- whether n numbers of a row are bytes -/
def fitb (f : Nat → Int32) (sp n : Nat) : Bool := (List.range n).all (fun i => decide ((f (sp + i)).toInt8.toInt32 = f (sp + i)))
def vcat (v : VV) : Nat := match v with | .inl _ => 1 | .inr (.inl _) => 2 | .inr (.inr (.inl _)) => 2 | .inr (.inr (.inr _)) => 1
def vkd (v : VV) : Nat := match v with | .inl _ => 0 | .inr (.inl _) => 1 | .inr (.inr (.inl _)) => 2 | .inr (.inr (.inr _)) => 3
def nx (pc : Nat) (ls : LV) (st : List VV) (h : PH) : Option PStp := some (.inl (pc, ls, st, h))
def sLd (t i n : Nat) (pc : Nat) (ls : LV) (st : List VV) (h : PH) : Option PStp := match ls.getD i none with
  | some v => bif Nat.beq (vkd v) t then nx (pc + n) ls (v :: st) h else none
  | none => none
/-- a local that a store breaks: the long ahead of it -/
def lkill (ls : LV) (i : Nat) : LV := match i with
  | 0 => ls
  | k + 1 => match ls.getD k none with
    | some v => bif Nat.beq (vcat v) 2 then ls.set k none else ls
    | none => ls
def lput (ls : LV) (i : Nat) (v : VV) : LV := bif Nat.beq (vcat v) 2 then ((lkill ls i).set i (some v)).set (i + 1) none else (lkill ls i).set i (some v)
def sSt (t i n : Nat) (pc : Nat) (ls : LV) (st : List VV) (h : PH) : Option PStp := match st with
  | v :: r => bif Nat.beq (vkd v) t && Nat.blt (i + vcat v) (ls.length + 1) then nx (pc + n) (lput ls i v) r h else none
  | [] => none
def sI2 (f : Int32 → Int32 → Int32) (pc : Nat) (ls : LV) (st : List VV) (h : PH) : Option PStp := match st with
  | .inl y :: .inl x :: r => nx (pc + 1) ls (.inl (f x y) :: r) h
  | _ => none
def sL2 (f : Int64 → Int64 → Int64) (pc : Nat) (ls : LV) (st : List VV) (h : PH) : Option PStp := match st with
  | .inr (.inl y) :: .inr (.inl x) :: r => nx (pc + 1) ls (.inr (.inl (f x y)) :: r) h
  | _ => none
def pushI (x : Int32) (n : Nat) (pc : Nat) (ls : LV) (st : List VV) (h : PH) : Option PStp := nx (pc + n) ls (.inl x :: st) h
def brI (c : Prop) [Decidable c] (t pc : Nat) (ls : LV) (r : List VV) (h : PH) : Option PStp := some (.inl (if c then (t, ls, r, h) else (pc + 3, ls, r, h)))
def tgt (pc : Nat) (off : Int) : Nat := ((pc : Int) + off).toNat
def oktgt (pc : Nat) (off : Int) : Bool := decide ((pc : Int) + off = (tgt pc off : Int))
def sIf0 (cd : ClassFile.Cond) (off : Int) (pc : Nat) (ls : LV) (st : List VV) (h : PH) : Option PStp := match st with
  | .inl x :: r => bif oktgt pc off then (match cd with
    | .eq => brI (x = 0) (tgt pc off) pc ls r h
    | .ne => brI (¬ x = 0) (tgt pc off) pc ls r h
    | .lt => brI (x < 0) (tgt pc off) pc ls r h
    | .ge => brI (0 ≤ x) (tgt pc off) pc ls r h
    | .gt => brI (0 < x) (tgt pc off) pc ls r h
    | .le => brI (x ≤ 0) (tgt pc off) pc ls r h) else none
  | _ => none
def sIf2 (cd : ClassFile.Cond) (off : Int) (pc : Nat) (ls : LV) (st : List VV) (h : PH) : Option PStp := match st with
  | .inl y :: .inl x :: r => bif oktgt pc off then (match cd with
    | .eq => brI (x = y) (tgt pc off) pc ls r h
    | .ne => brI (¬ x = y) (tgt pc off) pc ls r h
    | .lt => brI (x < y) (tgt pc off) pc ls r h
    | .ge => brI (y ≤ x) (tgt pc off) pc ls r h
    | .gt => brI (y < x) (tgt pc off) pc ls r h
    | .le => brI (x ≤ y) (tgt pc off) pc ls r h) else none
  | _ => none
def sAc (cd : ClassFile.ACond) (off : Int) (pc : Nat) (ls : LV) (st : List VV) (h : PH) : Option PStp := match st with
  | .inr (.inr (.inr y)) :: .inr (.inr (.inr x)) :: r => bif oktgt pc off && Nat.beq y.1 40 && Nat.beq x.1 40 then (match cd with
    | .eq => brI (x.2.2 = y.2.2) (tgt pc off) pc ls r h
    | .ne => brI (¬ x.2.2 = y.2.2) (tgt pc off) pc ls r h) else none
  | _ => none
def sNul (off : Int) (pc : Nat) (ls : LV) (st : List VV) (h : PH) : Option PStp := match st with
  | .inr (.inr (.inr x)) :: r => bif oktgt pc off && Nat.blt x.1 46 then brI (x.1 = 0) (tgt pc off) pc ls r h else none
  | _ => none
def sNnl (off : Int) (pc : Nat) (ls : LV) (st : List VV) (h : PH) : Option PStp := match st with
  | .inr (.inr (.inr x)) :: r => bif oktgt pc off && Nat.blt x.1 46 then brI (¬ x.1 = 0) (tgt pc off) pc ls r h else none
  | _ => none
/-- the key of a link in the tables (0 is none) -/
noncomputable def ky (m idx : Nat) : Nat := bif Nat.blt idx 2048 then mow m * 2048 + idx else 0
def sLen (pc : Nat) (ls : LV) (st : List VV) (h : PH) : Option PStp := match st with
  | .inr (.inr (.inr r)) :: t => bif Nat.ble 20 r.1 && (Nat.ble r.1 29 || Nat.beq r.1 41 || Nat.beq r.1 42 || Nat.beq r.1 44 || Nat.beq r.1 45) then nx (pc + 1) ls (.inl (Int32.ofNat r.2.1) :: t) h else none
  | _ => none
noncomputable def sIald (pc : Nat) (ls : LV) (st : List VV) (h : PH) : Option PStp := match st with
  | .inl j :: .inr (.inr (.inr r)) :: t => if j < 0 ∨ r.2.1 ≤ j.toNatClampNeg then none else
      bif Nat.beq r.1 20 || Nat.beq r.1 45 then nx (pc + 1) ls (.inl (h.1 r.2.2 j.toNatClampNeg) :: t) h
      else bif Nat.beq r.1 42 then nx (pc + 1) ls (.inl (swmL.getD j.toNatClampNeg 0) :: t) h else none
  | _ => none
noncomputable def sBald (pc : Nat) (ls : LV) (st : List VV) (h : PH) : Option PStp := match st with
  | .inl j :: .inr (.inr (.inr r)) :: t => if j < 0 ∨ r.2.1 ≤ j.toNatClampNeg then none else
      bif Nat.beq r.1 22 || Nat.beq r.1 26 then nx (pc + 1) ls (.inl (h.1 r.2.2 j.toNatClampNeg) :: t) h
      else bif Nat.beq r.1 44 then nx (pc + 1) ls (.inl (sbyt r.2.2 j.toNatClampNeg) :: t) h
      else bif Nat.beq r.1 48 then nx (pc + 1) ls (.inl (dgt r.2.2 j.toNatClampNeg) :: t) h else none
  | _ => none
def sLald (pc : Nat) (ls : LV) (st : List VV) (h : PH) : Option PStp := match st with
  | .inl j :: .inr (.inr (.inr r)) :: t => if j < 0 ∨ r.2.1 ≤ j.toNatClampNeg then none else
      bif Nat.beq r.1 21 then nx (pc + 1) ls (.inr (.inl (h.2.1 r.2.2 j.toNatClampNeg)) :: t) h else none
  | _ => none
noncomputable def sAald (pc : Nat) (ls : LV) (st : List VV) (h : PH) : Option PStp := match st with
  | .inl j :: .inr (.inr (.inr r)) :: t => if j < 0 ∨ r.2.1 ≤ j.toNatClampNeg then none else
      bif Nat.ble 23 r.1 && Nat.ble r.1 29 && !Nat.beq r.1 26 then nx (pc + 1) ls (.inr (.inr (.inr (h.2.2.1 r.2.2 j.toNatClampNeg))) :: t) h
      else bif Nat.beq r.1 41 then nx (pc + 1) ls (.inr (.inr (.inr (40, 0, j.toNatClampNeg))) :: t) h
      else bif Nat.beq r.1 47 then nx (pc + 1) ls (.inr (.inr (.inr (43, 0, fid r.2.2 j.toNatClampNeg))) :: t) h else none
  | _ => none
def sIast (pc : Nat) (ls : LV) (st : List VV) (h : PH) : Option PStp := match st with
  | .inl x :: .inl j :: .inr (.inr (.inr r)) :: t => if j < 0 ∨ r.2.1 ≤ j.toNatClampNeg then none else
      bif Nat.beq r.1 20 then nx (pc + 1) ls t (setI h r.2.2 j.toNatClampNeg x) else none
  | _ => none
def sBast (pc : Nat) (ls : LV) (st : List VV) (h : PH) : Option PStp := match st with
  | .inl x :: .inl j :: .inr (.inr (.inr r)) :: t => if j < 0 ∨ r.2.1 ≤ j.toNatClampNeg then none else
      bif Nat.beq r.1 22 then nx (pc + 1) ls t (setI h r.2.2 j.toNatClampNeg x.toInt8.toInt32) else bif Nat.beq r.1 26 then nx (pc + 1) ls t (setI h r.2.2 j.toNatClampNeg (x &&& 1)) else none
  | _ => none
def sLast (pc : Nat) (ls : LV) (st : List VV) (h : PH) : Option PStp := match st with
  | .inr (.inl x) :: .inl j :: .inr (.inr (.inr r)) :: t => if j < 0 ∨ r.2.1 ≤ j.toNatClampNeg then none else
      bif Nat.beq r.1 21 then nx (pc + 1) ls t (setL h r.2.2 j.toNatClampNeg x) else none
  | _ => none
/-- what an array of references holds -/
def elk (t : Nat) : Nat := bif Nat.beq t 23 then 40 else bif Nat.beq t 24 then 4 else bif Nat.beq t 25 then 10 else bif Nat.beq t 27 then 13 else bif Nat.beq t 28 then 20 else 26
def sAast (pc : Nat) (ls : LV) (st : List VV) (h : PH) : Option PStp := match st with
  | .inr (.inr (.inr v)) :: .inl j :: .inr (.inr (.inr r)) :: t => if j < 0 ∨ r.2.1 ≤ j.toNatClampNeg then none else
      bif Nat.ble 23 r.1 && Nat.ble r.1 29 && !Nat.beq r.1 26 && Nat.beq v.1 (elk r.1) then nx (pc + 1) ls t (setR h r.2.2 j.toNatClampNeg v) else none
  | _ => none
def sNewa (ty k : Nat) (pc : Nat) (ls : LV) (st : List VV) (h : PH) : Option PStp := match st with
  | .inl n :: t => if n < 0 ∨ 100000 < n.toNatClampNeg then none else nx (pc + k) ls (.inr (.inr (.inr (ty, n.toNatClampNeg, hN h))) :: t) (grow h n.toNatClampNeg)
  | _ => none
noncomputable def gfv (ty k kd fg : Nat) (r : VR) (h : PH) : Option VV := bif Nat.beq r.1 ty then
    (bif Nat.beq ty 40 then (bif Nat.beq k 0 then some (.inr (.inr (.inr (43, 0, tid r.2.2)))) else some (.inl (Int32.ofNat r.2.2)))
     else bif Nat.beq kd 0 then some (.inl (h.1 r.2.2 k)) else bif Nat.beq kd 1 then some (.inr (.inl (h.2.1 r.2.2 k))) else some (.inr (.inr (.inr (h.2.2.1 r.2.2 k)))))
    else bif Nat.beq ty 14 && Nat.beq r.1 43 then (bif Nat.beq k 0 then some (.inr (.inr (.inr (44, slen r.2.2, r.2.2)))) else bif Nat.beq k 1 then some (.inl 0) else none) else none
noncomputable def sGf (m idx : Nat) (pc : Nat) (ls : LV) (st : List VV) (h : PH) : Option PStp := match st with
  | .inr (.inr (.inr r)) :: t => match FR (ky m idx) with
    | some (ty, k, kd, fg) => match gfv ty k kd fg r h with
      | some v => nx (pc + 3) ls (v :: t) h
      | none => none
    | none => none
  | _ => none
noncomputable def sPf (m idx : Nat) (pc : Nat) (ls : LV) (st : List VV) (h : PH) : Option PStp := match st with
  | v :: .inr (.inr (.inr r)) :: t => match FR (ky m idx) with
    | some (ty, k, kd, fg) => bif Nat.beq r.1 ty && Nat.blt ty 40 && (!fin4 fg || (mini m && Nat.beq (mow m) ty)) then (match v with
      | .inl x => bif Nat.beq kd 0 then (bif Nat.beq fg 2 then (if x = 0 ∨ x = 1 then nx (pc + 3) ls t (setI h r.2.2 k x) else none) else bif byt4 fg then (if x.toInt8.toInt32 = x then nx (pc + 3) ls t (setI h r.2.2 k x) else none) else nx (pc + 3) ls t (setI h r.2.2 k x)) else none
      | .inr (.inl x) => bif Nat.beq kd 1 then nx (pc + 3) ls t (setL h r.2.2 k x) else none
      | .inr (.inr (.inl _)) => none
      | .inr (.inr (.inr x)) => bif Nat.beq kd 2 && Nat.blt x.1 46 then nx (pc + 3) ls t (setR h r.2.2 k x) else none) else none
    | none => none
  | _ => none
/-- the constructor of an exception, as CommaStream's file names it -/
def xic (e : Nat) : Nat := match e with | 0 => 75 | 1 => 86 | _ => 364
noncomputable def sNew (m idx : Nat) (pc : Nat) (ls : LV) (st : List VV) (h : PH) : Option PStp := match NR (ky m idx) with
  | some (ty, n) => nx (pc + 3) ls (.inr (.inr (.inr (ty, 0, hN h))) :: st) (grow h n)
  | none => match XR (ky m idx) with
    | some e => match fetch m (pc + 3), fetch m (pc + 4), fetch m (pc + 6), fetch m (pc + 9) with
      | some .dup, some (.ldc j), some (.invokespecial q), some .athrow => bif msL.any (fun x => Nat.beq x.1 j) && Nat.beq q (xic e) && Nat.ble ((st.map vcat).sum) 8 then some (.inr (.inr (.inr e, grow h 6))) else none
      | some .dup, some (.ldc_w j), _, _ => (match fetch m (pc + 7), fetch m (pc + 10) with
        | some (.invokespecial q), some .athrow => bif msL.any (fun x => Nat.beq x.1 j) && Nat.beq q (xic e) && Nat.ble ((st.map vcat).sum) 8 then some (.inr (.inr (.inr e, grow h 6))) else none
        | _, _ => none)
      | _, _, _, _ => none
    | none => none
def layA : List VV → LV
  | [] => []
  | v :: r => bif Nat.beq (vcat v) 2 then some v :: none :: layA r else some v :: layA r
def rcv (t : Nat) (a : List VV) : Bool := bif Nat.beq t 0 then true else match a with
  | .inr (.inr (.inr r)) :: _ => Nat.beq r.1 t || (Nat.beq t 14 && Nat.beq r.1 43)
  | _ => false
def sClone (pc : Nat) (ls : LV) (st : List VV) (h : PH) : Option PStp := match st with
  | .inr (.inr (.inr r)) :: t => bif Nat.beq r.1 22 && Nat.ble r.2.1 100000 && fitb (h.1 r.2.2) 0 r.2.1 && Nat.ble ((t.map vcat).sum) 8 then nx (pc + 3) ls (.inr (.inr (.inr (22, r.2.1, hN h))) :: t) (cpyR (grow h r.2.1) r.2.2 (hN h)) else none
  | _ => none
noncomputable def sCast (m idx : Nat) (pc : Nat) (ls : LV) (st : List VV) (h : PH) : Option PStp := match st with
  | .inr (.inr (.inr r)) :: t => match CR (ky m idx) with
    | some k => bif Nat.beq r.1 k then nx (pc + 3) ls (.inr (.inr (.inr r)) :: t) h else none
    | none => none
  | _ => none
noncomputable def sCopy (pc : Nat) (ls : LV) (st : List VV) (h : PH) : Option PStp := match st with
  | .inl n :: .inl dp :: .inr (.inr (.inr b)) :: .inl sp :: .inr (.inr (.inr a)) :: t =>
    if sp < 0 ∨ dp < 0 ∨ n < 0 ∨ a.2.1 < sp.toNatClampNeg + n.toNatClampNeg ∨ b.2.1 < dp.toNatClampNeg + n.toNatClampNeg then none else
    bif Nat.beq a.1 20 && Nat.beq b.1 20 then nx (pc + 3) ls t (cpyI h a.2.2 sp.toNatClampNeg b.2.2 dp.toNatClampNeg n.toNatClampNeg)
    else bif Nat.beq a.1 22 && Nat.beq b.1 22 && fitb (h.1 a.2.2) sp.toNatClampNeg n.toNatClampNeg then nx (pc + 3) ls t (cpyI h a.2.2 sp.toNatClampNeg b.2.2 dp.toNatClampNeg n.toNatClampNeg)
    else bif Nat.beq a.1 44 && Nat.beq b.1 22 && fitb (sbyt a.2.2) sp.toNatClampNeg n.toNatClampNeg then nx (pc + 3) ls t (cpyS h a.2.2 sp.toNatClampNeg b.2.2 dp.toNatClampNeg n.toNatClampNeg) else none
  | _ => none
def sMax (b : Bool) (pc : Nat) (ls : LV) (st : List VV) (h : PH) : Option PStp := match st with
  | .inl y :: .inl x :: r => bif Nat.ble ((r.map vcat).sum) 8 then nx (pc + 3) ls (.inl (bif b then (if x < y then y else x) else (if y < x then y else x)) :: r) h else none
  | _ => none
noncomputable def sCall (o m idx : Nat) (pc : Nat) (ls : LV) (st : List VV) (h : PH) : Option PStp := match MR (ky m idx) with
  | some (na, y, t) => bif Nat.beq y 1000 then (match st with
      | .inr (.inr (.inr r)) :: q => bif Nat.beq o 1 && Nat.blt 0 r.1 && Nat.blt r.1 16 && Nat.ble ((q.map vcat).sum) 8 then nx (pc + 3) ls q h else none
      | _ => none)
    else bif Nat.beq y 1001 then (bif Nat.beq o 2 && Nat.ble ((st.map vcat).sum) 13 then sCopy pc ls st h else none)
    else bif Nat.beq y 1002 then (bif Nat.beq o 2 then sMax true pc ls st h else none)
    else bif Nat.beq y 1003 then (bif Nat.beq o 2 then sMax false pc ls st h else none)
    else bif Nat.beq y 1004 then (bif Nat.beq o 0 then sClone pc ls st h else none)
    else bif (Nat.beq o 2 == Nat.beq t 0) && (Nat.beq o 1 == (mini y || SUq (ky m idx))) && Nat.ble na st.length && Nat.ble (layA ((st.take na).reverse)).length (mxl y) && rcv t ((st.take na).reverse) && Nat.ble (((st.drop na).map vcat).sum) 8 then some (.inr (.inl (y, (st.take na).reverse, (pc + 3, ls, st.drop na, h)))) else none
  | none => none
noncomputable def sRetI (m : Nat) (st : List VV) (h : PH) : Option PStp := match st with
  | [.inl x] => bif Nat.beq (mrk m) 1 then some (.inr (.inr (.inl (some (.inl x)), h)))
    else bif Nat.beq (mrk m) 5 then (if x = 0 ∨ x = 1 then some (.inr (.inr (.inl (some (.inl x)), h))) else none)
    else bif Nat.beq (mrk m) 6 then (if (x.toUInt32 % 65536).toInt32 = x then some (.inr (.inr (.inl (some (.inl x)), h))) else none)
    else bif Nat.beq (mrk m) 7 then (if x.toInt8.toInt32 = x then some (.inr (.inr (.inl (some (.inl x)), h))) else none) else none
  | _ => none
noncomputable def step (m : Nat) (c : Cf) : Option PStp := match c with
  | (pc, ls, st, h) => match fetch m pc with
    | none => none
    | some i => match i with
      | .aload_n k => sLd 3 k.val 1 pc ls st h
      | .aload k => sLd 3 k 2 pc ls st h
      | .iload_n k => sLd 0 k.val 1 pc ls st h
      | .iload k => sLd 0 k 2 pc ls st h
      | .lload_n k => sLd 1 k.val 1 pc ls st h
      | .lload k => sLd 1 k 2 pc ls st h
      | .dload k => sLd 2 k 2 pc ls st h
      | .astore_n k => sSt 3 k.val 1 pc ls st h
      | .astore k => sSt 3 k 2 pc ls st h
      | .istore_n k => sSt 0 k.val 1 pc ls st h
      | .istore k => sSt 0 k 2 pc ls st h
      | .lstore_n k => sSt 1 k.val 1 pc ls st h
      | .lstore k => sSt 1 k 2 pc ls st h
      | .dstore k => sSt 2 k 2 pc ls st h
      | .iconst n => pushI (Int32.ofInt n) 1 pc ls st h
      | .bipush n => pushI ((Int8.ofInt n).toInt32) 2 pc ls st h
      | .sipush n => pushI ((Int16.ofInt n).toInt32) 3 pc ls st h
      | .lconst n => nx (pc + 1) ls (.inr (.inl (Int64.ofNat n.val)) :: st) h
      | .dconst n => bif Nat.beq n.val 0 then nx (pc + 1) ls (.inr (.inr (.inl FP.dconst0)) :: st) h else none
      | .iadd => sI2 (fun x y => x + y) pc ls st h
      | .isub => sI2 (fun x y => x - y) pc ls st h
      | .imul => sI2 (fun x y => x * y) pc ls st h
      | .iand => sI2 (fun x y => x &&& y) pc ls st h
      | .ior => sI2 (fun x y => x ||| y) pc ls st h
      | .ishl => sI2 (fun x y => x <<< (y &&& 31)) pc ls st h
      | .ishr => sI2 (fun x y => x >>> (y &&& 31)) pc ls st h
      | .iushr => sI2 (fun x y => (x.toUInt32 >>> (y.toUInt32 &&& Int32.toUInt32 31)).toInt32) pc ls st h
      | .idiv => (match st with
        | .inl y :: .inl x :: r => if y = 0 then none else nx (pc + 1) ls (.inl (x / y) :: r) h
        | _ => none)
      | .irem => (match st with
        | .inl y :: .inl x :: r => if y = 0 then none else nx (pc + 1) ls (.inl (x - x / y * y) :: r) h
        | _ => none)
      | .ineg => (match st with
        | .inl x :: r => nx (pc + 1) ls (.inl (-x) :: r) h
        | _ => none)
      | .ladd => sL2 (fun x y => x + y) pc ls st h
      | .lsub => sL2 (fun x y => x - y) pc ls st h
      | .lmul => sL2 (fun x y => x * y) pc ls st h
      | .lor => sL2 (fun x y => x ||| y) pc ls st h
      | .lshl => (match st with
        | .inl y :: .inr (.inl x) :: r => nx (pc + 1) ls (.inr (.inl (x <<< (y.toInt64 &&& 63))) :: r) h
        | _ => none)
      | .lcmp => (match st with
        | .inr (.inl y) :: .inr (.inl x) :: r => nx (pc + 1) ls (.inl (lg_cmp x y) :: r) h
        | _ => none)
      | .i2l => (match st with
        | .inl x :: r => nx (pc + 1) ls (.inr (.inl x.toInt64) :: r) h
        | _ => none)
      | .l2i => (match st with
        | .inr (.inl x) :: r => nx (pc + 1) ls (.inl x.toInt32 :: r) h
        | _ => none)
      | .i2b => (match st with
        | .inl x :: r => nx (pc + 1) ls (.inl x.toInt8.toInt32 :: r) h
        | _ => none)
      | .i2c => (match st with
        | .inl x :: r => nx (pc + 1) ls (.inl (x.toUInt32 % 65536).toInt32 :: r) h
        | _ => none)
      | .i2d => (match st with
        | .inl x :: r => nx (pc + 1) ls (.inr (.inr (.inl (FP.i2d x))) :: r) h
        | _ => none)
      | .ddiv => (match st with
        | .inr (.inr (.inl y)) :: .inr (.inr (.inl x)) :: r => if FP.ddiv x y &&& 0x7fffffffffffffff ≤ 0x7ff0000000000000 then nx (pc + 1) ls (.inr (.inr (.inl (FP.ddiv x y))) :: r) h else none
        | _ => none)
      | .dcmp op => (match st with
        | .inr (.inr (.inl y)) :: .inr (.inr (.inl x)) :: r => nx (pc + 1) ls (.inl (Op.cmpValue (FP.dcmp x y) op) :: r) h
        | _ => none)
      | .dup => (match st with
        | v :: r => bif Nat.beq (vcat v) 1 then nx (pc + 1) ls (v :: v :: r) h else none
        | _ => none)
      | .dup2 => (match st with
        | v :: w :: r => bif Nat.beq (vcat v) 1 && Nat.beq (vcat w) 1 then nx (pc + 1) ls (v :: w :: v :: w :: r) h else none
        | _ => none)
      | .dup_x1 => (match st with
        | v :: w :: r => bif Nat.beq (vcat v) 1 && Nat.beq (vcat w) 1 then nx (pc + 1) ls (v :: w :: v :: r) h else none
        | _ => none)
      | .aconst_null => nx (pc + 1) ls (.inr (.inr (.inr (0, 0, 0))) :: st) h
      | .pop => (match st with
        | v :: r => bif Nat.beq (vcat v) 1 then nx (pc + 1) ls r h else none
        | _ => none)
      | .iinc k n => (match ls.getD k none with
        | some (.inl x) => nx (pc + 3) (lput ls k (.inl (x + Int32.ofInt n))) st h
        | _ => none)
      | .ifCond cd off => sIf0 cd off pc ls st h
      | .if_icmp cd off => sIf2 cd off pc ls st h
      | .if_acmp cd off => sAc cd off pc ls st h
      | .ifnull off => sNul off pc ls st h
      | .ifnonnull off => sNnl off pc ls st h
      | .checkcast k => sCast m k pc ls st h
      | .goto off => bif oktgt pc off then nx (tgt pc off) ls st h else none
      | .tableswitch df lo hi offs => (match st with
        | .inl x :: r => if x.toInt < lo ∨ hi < x.toInt then (bif oktgt pc df then nx (tgt pc df) ls r h else none)
            else (match offs[(x.toInt - lo).toNat]? with
              | some off => bif oktgt pc off then nx (tgt pc off) ls r h else none
              | none => none)
        | _ => none)
      | .ldc k => (match LR (ky m k) with
        | some v => nx (pc + 2) ls (v :: st) h
        | none => none)
      | .ldc_w k => (match LR (ky m k) with
        | some (.inl x) => nx (pc + 3) ls (.inl x :: st) h
        | _ => none)
      | .ldc2_w k => (match L2 (ky m k) with
        | some v => nx (pc + 3) ls (.inr (.inl v) :: st) h
        | none => none)
      | .getstatic k => (match SR (ky m k) with
        | some v => nx (pc + 3) ls (v :: st) h
        | none => none)
      | .getfield k => sGf m k pc ls st h
      | .putfield k => sPf m k pc ls st h
      | .arraylength => sLen pc ls st h
      | .iaload => sIald pc ls st h
      | .baload => sBald pc ls st h
      | .laload => sLald pc ls st h
      | .aaload => sAald pc ls st h
      | .iastore => sIast pc ls st h
      | .bastore => sBast pc ls st h
      | .lastore => sLast pc ls st h
      | .aastore => sAast pc ls st h
      | .newarray a => (match a with
        | .int => sNewa 20 2 pc ls st h
        | .long => sNewa 21 2 pc ls st h
        | .byte => sNewa 22 2 pc ls st h
        | .boolean => sNewa 26 2 pc ls st h
        | _ => none)
      | .anewarray k => (match AR (ky m k) with
        | some t => sNewa t 3 pc ls st h
        | none => none)
      | .new k => sNew m k pc ls st h
      | .invokevirtual k => sCall 0 m k pc ls st h
      | .invokespecial k => sCall 1 m k pc ls st h
      | .invokestatic k => sCall 2 m k pc ls st h
      | .ireturn => sRetI m st h
      | .lreturn => (match st with
        | [.inr (.inl x)] => bif Nat.beq (mrk m) 2 then some (.inr (.inr (.inl (some (.inr (.inl x))), h))) else none
        | _ => none)
      | .dreturn => (match st with
        | [.inr (.inr (.inl x))] => bif Nat.beq (mrk m) 3 then some (.inr (.inr (.inl (some (.inr (.inr (.inl x)))), h))) else none
        | _ => none)
      | .areturn => (match st with
        | [.inr (.inr (.inr x))] => bif Nat.beq (mrk m) 4 then some (.inr (.inr (.inl (some (.inr (.inr (.inr x)))), h))) else none
        | _ => none)
      | .return_ => (match st with
        | [] => bif Nat.beq (mrk m) 0 then some (.inr (.inr (.inl none, h))) else none
        | _ => none)
      | _ => none
noncomputable def entL (m : Nat) (a : List VV) : LV := layA a ++ List.replicate (mxl m - (layA a).length) none
/-- what a handler at k answers: it stores what was caught and returns a number -/
noncomputable def hres (m k : Nat) : Option Int32 := match fetch m k with
  | some (.astore_n _) => (match fetch m (k + 1), fetch m (k + 2) with
    | some (.iconst n), some .ireturn => some (Int32.ofInt n)
    | _, _ => none)
  | some (.astore _) => (match fetch m (k + 2), fetch m (k + 3) with
    | some (.iconst n), some .ireturn => some (Int32.ofInt n)
    | _, _ => none)
  | _ => none
/-- which calls may throw -/
noncomputable def thr (m y pc : Nat) : Bool := !Nat.beq y 213 && !Nat.beq y 196 && match fetch m pc with
  | some (.invokevirtual k) => !MQN (ky m k)
  | _ => false
noncomputable def runF (rec : Nat → Nat → Cf → Option (Rs × PH)) (d m : Nat) (c : Cf) : Option (Rs × PH) := match step m c with
  | none => none
  | some (.inl c') => rec d m c'
  | some (.inr (.inl (y, a, c'))) => match d with
    | 0 => none
    | d' + 1 => match rec d' y (0, entL y a, [], c'.2.2.2) with
      | none => none
      | some (.inl v, h') => rec d m (c'.1, c'.2.1, v.toList ++ c'.2.2.1, h')
      | some (.inr e, h') => bif thr m y c.1 then (match hnd m c.1 e with
        | none => bif Nat.blt 24 m then some (.inr e, h') else none
        | some k => match hres m k with
          | some x => some (.inl (some (.inl x)), h')
          | none => none) else none
  | some (.inr (.inr q)) => some q
noncomputable def run : Nat → Nat → Nat → Cf → Option (Rs × PH)
  | 0 => fun _ _ _ => none
  | n + 1 => runF (run n)
