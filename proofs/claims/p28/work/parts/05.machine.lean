/-! ===== a small machine: the program's own code over cells by number ===== -/
abbrev xE : Type := (Nat × vp_A) ⊕ (Nat × List Value)
/-- cells by number; the next number and the slots made; the script's length and ints -/
abbrev xS : Type := (Nat → Option xE) × (Nat × Nat) × (Nat × (Nat → Int32))
abbrev xL : Type := List (Option Value)
abbrev xR : Type := Option Value ⊕ Nat
abbrev xA : Type := (Nat × xL × List Value × xS) ⊕ ((Nat × List Value × List Value) ⊕ xR)
def xstr : List (List Int32) := [[98, 97, 100], [98, 117, 114, 110, 116], [98, 121, 112, 97, 115, 115], [99, 117, 114, 118, 101], [100, 101, 97, 100], [102, 101, 101, 100], [102, 105, 108, 108], [108, 101, 118, 101, 108], [114, 101, 112, 101, 97, 116], [115, 104, 105, 102, 116], [115, 104, 111, 119], [115, 116, 114, 105, 112], [115, 116, 117, 116, 116, 101, 114], [120], [103, 111, 111, 100], [], [32], [32, 45, 32], [32, 59], [40], [41], [42, 32], [43], [47], [59], [99, 117, 114, 118, 101, 32]]
def xcx : List Nat := [0, 0, 0, 0, 0, 1, 1, 1, 2, 2, 2, 2, 2, 2, 2, 2, 2, 2, 2, 2, 3, 3, 3, 3, 3, 3, 3, 3, 3, 4, 4, 4, 4, 4, 4, 4, 4, 4, 4, 4, 4, 4, 4, 4, 4, 2, 4, 4, 4, 4, 4, 2, 4, 4, 4, 4, 4, 4, 4, 4, 4, 4, 4, 4, 4, 5, 5, 5, 5, 5, 5, 5, 5, 6, 6, 6, 6, 6, 6, 6, 6, 6, 6, 6, 6, 6, 6, 6, 6, 6, 6, 6, 6, 7, 7, 7, 7, 7, 7, 7, 7, 7, 7, 7, 7, 7, 2, 2, 7, 7, 7, 7, 7, 7, 7, 7, 7, 7, 7, 7, 7, 7, 8, 9, 9, 9, 10, 10, 10, 10, 11, 11, 12, 12, 12, 12, 12, 12, 12, 12, 12, 12, 12, 12, 12, 12, 12, 12, 12, 12, 12, 12, 12, 12, 14, 14, 14, 14, 14, 14, 14, 14, 14, 14, 999, 999, 13, 13, 13, 14, 14, 14, 14, 14, 999, 999, 999, 999, 999, 999, 999, 999, 999, 999, 999, 999, 999, 999, 999, 999, 999, 999, 999, 999, 999, 999, 999, 999, 999, 999, 999, 999, 999, 999, 999, 999, 999, 999, 999, 999, 2, 2, 2, 2, 2, 2, 999, 13, 13, 13, 13, 13, 999, 999, 999, 999, 2, 2, 2, 2, 2, 2, 2, 2, 2, 2, 2, 2, 2, 2, 2, 2, 2, 2, 999]
/-- a method's handlers: from, to, handler, class's place; the exception; where it goes on, the local that is lost -/
def xhn : Nat → List ((Nat × Nat × Nat × Nat) × Nat × Nat × Nat)
  | 184 => [((0, 5, 6, 40), 0, 5, 2)]
  | 185 => [((0, 5, 6, 40), 0, 5, 2)]
  | 186 => [((0, 5, 6, 40), 0, 5, 2)]
  | 187 => [((0, 6, 7, 53), 1, 6, 3), ((0, 6, 11, 40), 0, 9, 3)]
  | 188 => [((0, 6, 7, 53), 1, 6, 3), ((0, 6, 11, 40), 0, 9, 3)]
  | 189 => [((0, 5, 6, 53), 1, 5, 2)]
  | 190 => [((0, 5, 6, 53), 1, 5, 2)]
  | 191 => [((0, 5, 6, 40), 0, 5, 2)]
  | 192 => [((0, 5, 6, 40), 0, 5, 2)]
  | 193 => [((0, 11, 12, 53), 1, 9, 6), ((0, 11, 17, 40), 0, 12, 6)]
  | 194 => [((0, 5, 6, 40), 0, 5, 2)]
  | 195 => [((0, 5, 6, 40), 0, 5, 2)]
  | 196 => [((0, 5, 6, 40), 0, 5, 2)]
  | 197 => [((0, 14, 15, 53), 1, 10, 3)]
  | 198 => [((0, 7, 8, 53), 1, 7, 4), ((0, 7, 13, 40), 0, 10, 4), ((0, 7, 18, 94), 2, 13, 4)]
  | 199 => [((0, 6, 7, 53), 1, 6, 3), ((0, 6, 11, 40), 0, 9, 3)]
  | 200 => [((0, 5, 6, 53), 1, 5, 2)]
  | 201 => [((0, 5, 6, 53), 1, 5, 2), ((0, 5, 10, 106), 3, 8, 2)]
  | _ => []
def ft (k i : Nat) : Option xI := ((cds[k]?).getD [])[i]?
def xrtf (k : Nat) : Option FieldType := (xrt[k]?).getD none
def xmlf (k : Nat) : Nat := (xml[k]?).getD 0
def xcxf (k : Nat) : Nat := (xcx[k]?).getD 999
def xtyf (c j : Nat) : FieldType := match c with
  | 0 => tyX0 j
  | 1 => tyX1 j
  | 2 => tyX2 j
  | 3 => tyX3 j
  | 4 => tyX4 j
  | 5 => tyX5 j
  | 6 => tyX6 j
  | 7 => tyX7 j
  | 8 => tyX8 j
  | 9 => tyX9 j
  | 10 => tyX10 j
  | 11 => tyX11 j
  | 12 => tyX12 j
  | 13 => tyJ0 j
  | _ => tyJ4 j
def xnf (c : Nat) : Nat := match c with
  | 0 => 4
  | 1 => 3
  | 2 => 9
  | 3 => 7
  | 4 => 18
  | 5 => 3
  | 6 => 10
  | 7 => 13
  | 8 => 3
  | 9 => 8
  | 10 => 4
  | 11 => 1
  | 12 => 9
  | 13 => 4
  | _ => 4
/-- the texts of the law's three rows of texts -/
def xrows (i : Nat) : List Nat := match i with
  | 0 => [14, 4, 1, 12]
  | 1 => [13, 7]
  | _ => [6, 9, 7, 10, 2, 8]
/-- the digits of the numbers below a hundred: the last, the first -/
def xdig (i j : Nat) : Int32 := if j < 100 then (if i = 0 then Int32.ofNat (48 + j % 10) else Int32.ofNat (48 + j / 10)) else 0
def xdef (c : Nat) : List Value := (List.range (xnf c)).map fun j => defaultValue (xtyf c j)
def xExt (σ : xS) (a : Nat) : Option xE :=
  if a = 1000000 then some (.inl (0, (σ.2.2.1, .inl σ.2.2.2)))
  else if a = 1000001 then some (.inl (0, (6, .inl (fun j => ([5, 1, 1, 0, 1, 1] : List Int32).getD j 0))))
  else if 1000100 ≤ a ∧ a < 1000126 then some (.inr (13, [.ref (a + 100), .int 0]))
  else if 1000003 ≤ a ∧ a < 1000006 then some (.inl (9, ((xrows (a - 1000003)).length, .inr (.inr (.inr (.inr (fun j => ((xrows (a - 1000003))[j]?).map (fun z => 1000100 + z))))))))
  else if 1000006 ≤ a ∧ a < 1000008 then some (.inl (1, (100, .inl (xdig (a - 1000006)))))
  else if 1000200 ≤ a ∧ a < 1000226 then some (.inl (1, ((xstr.getD (a - 1000200) []).length, .inl (fun j => (xstr.getD (a - 1000200) []).getD j 0))))
  else none
def xRd (σ : xS) (a : Nat) : Option xE := if a < 1000000 then σ.1 a else xExt σ a
def xwr (σ : xS) (a : Nat) (e : xE) : xS := (fun b => if b = a then some e else σ.1 b, σ.2)
/-- a new cell of n slots -/
def xnew (σ : xS) (e : xE) (n : Nat) : xS := (fun b => if b = σ.2.1.1 then some e else σ.1 b, (σ.2.1.1 + 1, σ.2.1.2 + n), σ.2.2)
def xcat : List Value → Nat
  | [] => 0
  | v :: r => v.category + xcat r
def xkill (ls : xL) (n : Nat) : xL := match n with
  | 0 => ls
  | m + 1 => match ls[m]? with
    | some (some (.long _)) => ls.set m none
    | some (some (.double _)) => ls.set m none
    | _ => ls
def xset1 (ls : xL) (n : Nat) (v : Value) : xL := (xkill ls n).set n (some v)
def xset2 (ls : xL) (n : Nat) (v : Value) : xL := ((xkill ls n).set n (some v)).set (n + 1) none
def xargs : List Value → xL
  | [] => []
  | .long x :: r => some (.long x) :: none :: xargs r
  | .double x :: r => some (.double x) :: none :: xargs r
  | v :: r => some v :: xargs r
def xentry (args : List Value) (n : Nat) : xL := xargs args ++ List.replicate (n - (xargs args).length) none
def xpc (k i : Nat) : Option Nat := (ft k i).map (·.1)
def xhd (k i e : Nat) : Option (Nat × Nat) := match xpc k i with
  | some pc => ((xhn k).find? fun h => (decide (h.1.1 ≤ pc) && decide (pc < h.1.2.1)) && decide (h.2.1 = e)).map fun h => h.2.2
  | none => none
abbrev xgo (i : Nat) (ls : xL) (st : List Value) (σ : xS) : Option xA := some (.inl (i, ls, st, σ))
def xpush (i : Nat) (ls : xL) (v : Value) (st : List Value) (σ : xS) : Option xA := some (.inl (i + 1, ls, v :: st, σ))
def xloadI (i : Nat) (ls : xL) (n : Nat) (st : List Value) (σ : xS) : Option xA := match ls[n]? with
  | some (some (.int x)) => xgo (i + 1) ls (.int x :: st) σ
  | _ => none
def xloadL (i : Nat) (ls : xL) (n : Nat) (st : List Value) (σ : xS) : Option xA := match ls[n]? with
  | some (some (.long x)) => xgo (i + 1) ls (.long x :: st) σ
  | _ => none
def xloadA (i : Nat) (ls : xL) (n : Nat) (st : List Value) (σ : xS) : Option xA := match ls[n]? with
  | some (some (.ref x)) => xgo (i + 1) ls (.ref x :: st) σ
  | _ => none
def xstoreI (i : Nat) (ls : xL) (n : Nat) (st : List Value) (σ : xS) : Option xA := match st with
  | .int x :: r => if n < ls.length then xgo (i + 1) (xset1 ls n (.int x)) r σ else none
  | _ => none
def xstoreA (i : Nat) (ls : xL) (n : Nat) (st : List Value) (σ : xS) : Option xA := match st with
  | .ref x :: r => if n < ls.length ∧ x < 1000000 then xgo (i + 1) (xset1 ls n (.ref x)) r σ else none
  | _ => none
def xstoreL (i : Nat) (ls : xL) (n : Nat) (st : List Value) (σ : xS) : Option xA := match st with
  | .long x :: r => if n + 1 < ls.length then xgo (i + 1) (xset2 ls n (.long x)) r σ else none
  | _ => none
def xII (f : Int32 → Int32 → Int32) (i : Nat) (ls : xL) (st : List Value) (σ : xS) : Option xA := match st with
  | .int y :: .int x :: r => xgo (i + 1) ls (.int (f x y) :: r) σ
  | _ => none
def xLL (f : Int64 → Int64 → Int64) (i : Nat) (ls : xL) (st : List Value) (σ : xS) : Option xA := match st with
  | .long y :: .long x :: r => xgo (i + 1) ls (.long (f x y) :: r) σ
  | _ => none
def xLI (f : Int64 → Int32 → Int64) (i : Nat) (ls : xL) (st : List Value) (σ : xS) : Option xA := match st with
  | .int y :: .long x :: r => xgo (i + 1) ls (.long (f x y) :: r) σ
  | _ => none
def xIf (c : Int32 → Bool) (i t : Nat) (ls : xL) (st : List Value) (σ : xS) : Option xA := match st with
  | .int x :: r => if c x = true then xgo t ls r σ else xgo (i + 1) ls r σ
  | _ => none
def xIc (c : Int32 → Int32 → Bool) (i t : Nat) (ls : xL) (st : List Value) (σ : xS) : Option xA := match st with
  | .int y :: .int x :: r => if c x y = true then xgo t ls r σ else xgo (i + 1) ls r σ
  | _ => none
def xcond : ClassFile.Cond → Int32 → Int32 → Bool
  | .eq, x, y => decide (x = y)
  | .ne, x, y => decide (x ≠ y)
  | .lt, x, y => decide (x < y)
  | .ge, x, y => decide (y ≤ x)
  | .gt, x, y => decide (y < x)
  | .le, x, y => decide (x ≤ y)
/-- a read of a cell of ints, of kind t -/
def xaldI (t : Nat) (i : Nat) (ls : xL) (st : List Value) (σ : xS) : Option xA := match st with
  | .int j :: .ref a :: r => match xRd σ a with
    | some (.inl (t', (n, .inl f))) => if t' = t ∧ ¬ (j < 0 ∨ n ≤ j.toNatClampNeg) then xgo (i + 1) ls (.int (f j.toNatClampNeg) :: r) σ else none
    | _ => none
  | _ => none
def xaldB (i : Nat) (ls : xL) (st : List Value) (σ : xS) : Option xA := match st with
  | .int j :: .ref a :: r => match xRd σ a with
    | some (.inl (t', (n, .inl f))) => if t' = 1 ∧ ¬ (j < 0 ∨ n ≤ j.toNatClampNeg) then xgo (i + 1) ls (.int (f j.toNatClampNeg) :: r) σ else none
    | _ => none
  | _ => none
def xaldA (i : Nat) (ls : xL) (st : List Value) (σ : xS) : Option xA := match st with
  | .int j :: .ref a :: r => match xRd σ a with
    | some (.inl (t', (n, .inr (.inr (.inr (.inr f)))))) => if ((4 ≤ t' ∧ t' ≤ 8 ∧ a < 1000000) ∨ (t' = 9 ∧ 1000000 ≤ a)) ∧ ¬ (j < 0 ∨ n ≤ j.toNatClampNeg) then (match f j.toNatClampNeg with
      | some b => if b < 1000000 ∨ 1000000 ≤ a then xgo (i + 1) ls (.ref b :: r) σ else none
      | none => if a < 1000000 then xgo (i + 1) ls (.null :: r) σ else none) else none
    | _ => none
  | _ => none
def xastI (i : Nat) (ls : xL) (st : List Value) (σ : xS) : Option xA := match st with
  | .int x :: .int j :: .ref a :: r => if a < 1000000 then (match σ.1 a with
    | some (.inl (t', (n, .inl f))) => if t' = 0 ∧ ¬ (j < 0 ∨ n ≤ j.toNatClampNeg) then xgo (i + 1) ls r (xwr σ a (.inl (0, (n, .inl (upd f j.toNatClampNeg x))))) else none
    | _ => none) else none
  | _ => none
def xastB (i : Nat) (ls : xL) (st : List Value) (σ : xS) : Option xA := match st with
  | .int x :: .int j :: .ref a :: r => if a < 1000000 then (match σ.1 a with
    | some (.inl (t', (n, .inl f))) => if ¬ (j < 0 ∨ n ≤ j.toNatClampNeg) then
      (if t' = 1 then xgo (i + 1) ls r (xwr σ a (.inl (1, (n, .inl (upd f j.toNatClampNeg (vp_nar .byte x)))))) else none) else none
    | _ => none) else none
  | _ => none
/-- the class of what a row of objects holds -/
def xofA (t : Nat) : Nat := match t with
  | 4 => 4
  | 6 => 9
  | 7 => 12
  | _ => 8
def xastA (i : Nat) (ls : xL) (st : List Value) (σ : xS) : Option xA := match st with
  | .ref v :: .int j :: .ref a :: r => if a < 1000000 ∧ v < 1000000 then (match σ.1 a, σ.1 v with
    | some (.inl (t', (n, .inr (.inr (.inr (.inr f)))))), some (.inr (c, _)) => if (t' = 4 ∨ t' = 6 ∨ t' = 7 ∨ t' = 8) ∧ c = xofA t' ∧ ¬ (j < 0 ∨ n ≤ j.toNatClampNeg) then xgo (i + 1) ls r (xwr σ a (.inl (t', (n, .inr (.inr (.inr (.inr (va_up f j.toNatClampNeg (some v))))))))) else none
    | some (.inl (t', (n, .inr (.inr (.inr (.inr f)))))), some (.inl (0, _)) => if t' = 5 ∧ ¬ (j < 0 ∨ n ≤ j.toNatClampNeg) then xgo (i + 1) ls r (xwr σ a (.inl (5, (n, .inr (.inr (.inr (.inr (va_up f j.toNatClampNeg (some v))))))))) else none
    | _, _ => none) else none
  | .null :: .int j :: .ref a :: r => if a < 1000000 then (match σ.1 a with
    | some (.inl (t', (n, .inr (.inr (.inr (.inr f)))))) => if (t' = 4 ∨ t' = 6 ∨ t' = 7 ∨ t' = 8) ∧ ¬ (j < 0 ∨ n ≤ j.toNatClampNeg) then xgo (i + 1) ls r (xwr σ a (.inl (t', (n, .inr (.inr (.inr (.inr (va_up f j.toNatClampNeg none)))))))) else none
    | _ => none) else none
  | _ => none
def xget (ci sl : Nat) (i : Nat) (ls : xL) (st : List Value) (σ : xS) : Option xA := match st with
  | .ref a :: r => match xRd σ a with
    | some (.inr (c, fs)) => if c = ci then (match fs[sl]? with
      | some v => xgo (i + 1) ls (v :: r) σ
      | none => none) else none
    | _ => none
  | _ => none
def xput (ci sl : Nat) (i : Nat) (ls : xL) (st : List Value) (σ : xS) : Option xA := match st with
  | v :: .ref a :: r => if a < 1000000 then (match σ.1 a with
    | some (.inr (c, fs)) => if c = ci ∧ sl < fs.length ∧ narrow (xtyf ci sl) v = v ∧ fits (xtyf ci sl) v = true then xgo (i + 1) ls r (xwr σ a (.inr (ci, fs.set sl v))) else none
    | _ => none) else none
  | _ => none
def xzero (t : Nat) (n : Nat) : vp_A := if t = 3 then (n, .inr (.inl (fun _ => 0))) else (n, .inl (fun _ => 0))
def xalloc (i : Nat) (ls : xL) (st : List Value) (σ : xS) (e : xE) (n : Nat) : Option xA :=
  if σ.2.1.1 < 900000 then xgo (i + 1) ls (.ref σ.2.1.1 :: st) (xnew σ e n) else none
/-- whether all of a piece of a row are bytes -/
def xfitB (f : Nat → Int32) (a n : Nat) : Bool := (List.range n).all (fun j => fits .byte (.int (f (a + j))))
def xcopy (i : Nat) (ls : xL) (st : List Value) (σ : xS) : Option xA := match st with
  | .int n :: .int dp :: .ref a :: .int sp :: .ref b :: r => if a < 1000000 then (match xRd σ b, σ.1 a with
    | some (.inl (t0, (n0, .inl f))), some (.inl (t1, (n1, .inl g))) =>
      if t1 = t0 ∧ ((t0 = 0 ∧ b < 1000000) ∨ t0 = 1) ∧ ¬ sp < 0 ∧ ¬ dp < 0 ∧ ¬ n < 0 ∧ sp.toNatClampNeg + n.toNatClampNeg ≤ n0 ∧ dp.toNatClampNeg + n.toNatClampNeg ≤ n1 ∧ xcat r ≤ 8 ∧ (t0 = 0 ∨ xfitB f sp.toNatClampNeg n.toNatClampNeg = true) then
        xgo (i + 1) ls r (xwr σ a (.inl (t0, (n1, .inl (va_cpy f g sp.toNatClampNeg dp.toNatClampNeg n.toNatClampNeg))))) else none
    | _, _ => none) else none
  | _ => none
/-- a row of ints or bytes made anew -/
def xclone (z : Nat) (i : Nat) (ls : xL) (st : List Value) (σ : xS) : Option xA := match st with
  | .ref a :: r => if a < 1000000 ∧ xcat r ≤ 8 then (match σ.1 a with
    | some (.inl (t, (n, .inl f))) => if t = z ∧ z < 2 ∧ n ≤ 100000 ∧ (z = 0 ∨ xfitB f 0 n = true) then xalloc i ls r σ (.inl (t, (n, .inl f))) n else none
    | _ => none) else none
  | _ => none
def xcall (k' na kind : Nat) (st : List Value) (σ : xS) : Option xA :=
  if na ≤ st.length ∧ xcat (st.drop na) ≤ 8 ∧ (xargs (st.take na).reverse).length ≤ xmlf k' then
    (if kind = 1 ∨ kind = 4 ∨ kind = 6 then some (.inr (.inl (k', (st.take na).reverse, st.drop na)))
     else match (st.take na).reverse with
      | .ref a :: as => (match xRd σ a with
        | some (.inr (c, _)) => if c = xcxf k' then some (.inr (.inl (k', .ref a :: as, st.drop na))) else none
        | _ => none)
      | _ => none)
  else none
def xinv (i : Nat) (aux : List Int) (ls : xL) (st : List Value) (σ : xS) : Option xA := match aux with
  | [k', na, kind, _] =>
    if kind = 20 then (match st with
      | .ref a :: r => if a < 1000000 ∧ xcat r ≤ 8 then xgo (i + 1) ls r σ else none
      | _ => none)
    else if kind = 21 then xcopy i ls st σ
    else if kind = 22 then xclone k'.toNat i ls st σ
    else if kind = 24 then (match st with
      | .int y :: .int x :: r => if xcat r ≤ 8 then xgo (i + 1) ls (.int (if x < y then y else x) :: r) σ else none
      | _ => none)
    else if kind = 25 then (match st with
      | .int y :: .int x :: r => if xcat r ≤ 8 then xgo (i + 1) ls (.int (if y < x then y else x) :: r) σ else none
      | _ => none)
    else if kind = 26 then (match st with
      | .long y :: .long x :: r => if xcat r ≤ 8 then xgo (i + 1) ls (.long (if y < x then x else y) :: r) σ else none
      | _ => none)
    else if kind = 27 then (match st with
      | .long y :: .long x :: r => if xcat r ≤ 8 then xgo (i + 1) ls (.long (if y < x then y else x) :: r) σ else none
      | _ => none)
    else if kind ≤ 9 then xcall k'.toNat na.toNat kind.toNat st σ
    else none
  | _ => none
def xret (k : Nat) (st : List Value) : Option xA := match st with
  | [.int v] => match xrtf k with
    | some ty => if narrow ty (.int v) = .int v then some (.inr (.inr (.inl (some (.int v))))) else none
    | none => none
  | _ => none
def xtgt (aux : List Int) : Nat := ((aux[0]?).getD 0).toNat
def stp (k i : Nat) (ins : Instr) (aux : List Int) (ls : xL) (st : List Value) (σ : xS) : Option xA := match ins with
  | .iconst c => xpush i ls (.int (Int32.ofInt c)) st σ
  | .bipush c => xpush i ls (.int (Int8.ofInt c).toInt32) st σ
  | .sipush c => xpush i ls (.int (Int16.ofInt c).toInt32) st σ
  | .lconst c => xpush i ls (.long (Int64.ofNat (c : Nat))) st σ
  | .aconst_null => xpush i ls .null st σ
  | .ldc _ => match aux with
    | [t, v, _] => if t = 0 then xpush i ls (.int (Int32.ofInt v)) st σ else xpush i ls (.ref (1000100 + v.toNat)) st σ
    | _ => none
  | .ldc_w _ => match aux with
    | [t, v, _] => if t = 0 then xpush i ls (.int (Int32.ofInt v)) st σ else xpush i ls (.ref (1000100 + v.toNat)) st σ
    | _ => none
  | .ldc2_w _ => match aux with
    | [v, _] => xpush i ls (.long (Int64.ofInt v)) st σ
    | _ => none
  | .getstatic _ => match aux with
    | [t, _, _] => if t = 0 then xpush i ls (.ref 1000001) st σ else if t = 1 then xpush i ls (.int 1) st σ else if t = 2 then xpush i ls (.ref 1000002) st σ
      else if 3 ≤ t ∧ t < 8 then xpush i ls (.ref (1000000 + t.toNat)) st σ else none
    | _ => none
  | .iload n => xloadI i ls n st σ
  | .iload_n n => xloadI i ls n st σ
  | .lload n => xloadL i ls n st σ
  | .lload_n n => xloadL i ls n st σ
  | .aload n => xloadA i ls n st σ
  | .aload_n n => xloadA i ls n st σ
  | .istore n => xstoreI i ls n st σ
  | .istore_n n => xstoreI i ls n st σ
  | .lstore n => xstoreL i ls n st σ
  | .lstore_n n => xstoreL i ls n st σ
  | .astore n => xstoreA i ls n st σ
  | .astore_n n => xstoreA i ls n st σ
  | .iinc n c => match ls[n]? with
    | some (some (.int x)) => xgo (i + 1) (xset1 ls n (.int (x + Int32.ofInt c))) st σ
    | _ => none
  | .iadd => xII (fun x y => x + y) i ls st σ
  | .isub => xII (fun x y => x - y) i ls st σ
  | .imul => xII (fun x y => x * y) i ls st σ
  | .iand => xII (fun x y => x &&& y) i ls st σ
  | .ior => xII (fun x y => x ||| y) i ls st σ
  | .ishl => xII (fun x y => x <<< (y &&& 31)) i ls st σ
  | .ishr => xII (fun x y => x >>> (y &&& 31)) i ls st σ
  | .idiv => match st with
    | .int y :: .int x :: r => if ¬ y = 0 then xgo (i + 1) ls (.int (x / y) :: r) σ else none
    | _ => none
  | .irem => match st with
    | .int y :: .int x :: r => if ¬ y = 0 then xgo (i + 1) ls (.int (x - x / y * y) :: r) σ else none
    | _ => none
  | .iushr => xII (fun x y => (x.toUInt32 >>> (y.toUInt32 &&& 31)).toInt32) i ls st σ
  | .ineg => match st with
    | .int x :: r => xgo (i + 1) ls (.int (-x) :: r) σ
    | _ => none
  | .ladd => xLL (fun x y => x + y) i ls st σ
  | .lsub => xLL (fun x y => x - y) i ls st σ
  | .lmul => xLL (fun x y => x * y) i ls st σ
  | .land => xLL (fun x y => x &&& y) i ls st σ
  | .lor => xLL (fun x y => x ||| y) i ls st σ
  | .lxor => xLL (fun x y => x ^^^ y) i ls st σ
  | .ldiv => match st with
    | .long y :: .long x :: r => if ¬ y = 0 then xgo (i + 1) ls (.long (x / y) :: r) σ else none
    | _ => none
  | .lshl => xLI (fun x y => x <<< (y.toInt64 &&& 63)) i ls st σ
  | .lshr => xLI (fun x y => x >>> (y.toInt64 &&& 63)) i ls st σ
  | .lushr => xLI (fun x y => (x.toUInt64 >>> (y.toInt64.toUInt64 &&& Int64.toUInt64 63)).toInt64) i ls st σ
  | .lcmp => match st with
    | .long y :: .long x :: r => xgo (i + 1) ls (.int (lg_cmp x y) :: r) σ
    | _ => none
  | .i2l => match st with
    | .int x :: r => xgo (i + 1) ls (.long x.toInt64 :: r) σ
    | _ => none
  | .l2i => match st with
    | .long x :: r => xgo (i + 1) ls (.int x.toInt32 :: r) σ
    | _ => none
  | .i2b => match st with
    | .int x :: r => xgo (i + 1) ls (.int x.toInt8.toInt32 :: r) σ
    | _ => none
  | .i2c => match st with
    | .int x :: r => xgo (i + 1) ls (.int (x.toUInt32 % 65536).toInt32 :: r) σ
    | _ => none
  | .dup => match st with
    | v :: r => if v.category = 1 then xgo (i + 1) ls (v :: v :: r) σ else none
    | _ => none
  | .pop => match st with
    | v :: r => if v.category = 1 then xgo (i + 1) ls r σ else none
    | _ => none
  | .dup2 => match st with
    | v :: w :: r => if v.category = 1 ∧ w.category = 1 then xgo (i + 1) ls (v :: w :: v :: w :: r) σ else none
    | _ => none
  | .goto _ => xgo (xtgt aux) ls st σ
  | .ifCond c _ => xIf (fun x => xcond c x 0) i (xtgt aux) ls st σ
  | .if_icmp c _ => xIc (xcond c) i (xtgt aux) ls st σ
  | .ifnull _ => match st with
    | .null :: r => xgo (xtgt aux) ls r σ
    | .ref x :: r => if x < 1000000 ∨ (1000100 ≤ x ∧ x < 1000126) then xgo (i + 1) ls r σ else none
    | _ => none
  | .ifnonnull _ => match st with
    | .null :: r => xgo (i + 1) ls r σ
    | .ref x :: r => if x < 1000000 ∨ (1000100 ≤ x ∧ x < 1000126) then xgo (xtgt aux) ls r σ else none
    | _ => none
  | .checkcast _ => match aux, st with
    | [z, _], .ref a :: r => if a < 1000000 then (match σ.1 a with
      | some (.inl (t, (_, .inl _))) => if (z = 0 ∧ t = 0) ∨ (z = 1 ∧ t = 1) then xgo (i + 1) ls (.ref a :: r) σ else none
      | _ => none) else none
    | _, _ => none
  | .tableswitch _ lo hi _ => match st with
    | .int x :: r => if x.toInt < lo ∨ hi < x.toInt then xgo (xtgt aux) ls r σ else (match aux[1 + (x.toInt - lo).toNat]? with
      | some t => xgo t.toNat ls r σ
      | none => none)
    | _ => none
  | .iaload => xaldI 0 i ls st σ
  | .baload => xaldB i ls st σ
  | .aaload => xaldA i ls st σ
  | .iastore => xastI i ls st σ
  | .bastore => xastB i ls st σ
  | .aastore => xastA i ls st σ
  | .arraylength => match st with
    | .ref a :: r => match xRd σ a with
      | some (.inl (t', (n, _))) => if t' = 0 ∨ t' = 1 ∨ (4 ≤ t' ∧ t' ≤ 8 ∧ a < 1000000) then xgo (i + 1) ls (.int (Int32.ofNat n) :: r) σ else none
      | _ => none
    | _ => none
  | .getfield _ => match aux with
    | [c, j, _, _] => xget c.toNat j.toNat i ls st σ
    | _ => none
  | .putfield _ => match aux with
    | [c, j, _, _] => xput c.toNat j.toNat i ls st σ
    | _ => none
  | .new _ => match aux with
    | [_, c, _] => xalloc i ls st σ (.inr (c.toNat, xdef c.toNat)) (xnf c.toNat)
    | [_, e, _, _] => if xcat st ≤ 8 ∧ σ.2.1.1 < 900000 then some (.inr (.inr (.inr e.toNat))) else none
    | _ => none
  | .newarray _ => match aux, st with
    | [t], .int n :: r => if ¬ n < 0 ∧ n.toNatClampNeg ≤ 100000 then xalloc i ls r σ (.inl (t.toNat, xzero t.toNat n.toNatClampNeg)) n.toNatClampNeg else none
    | _, _ => none
  | .anewarray _ => match aux, st with
    | [t, _], .int n :: r => if 4 ≤ t ∧ t ≤ 8 ∧ ¬ n < 0 ∧ n.toNatClampNeg ≤ 100000 then xalloc i ls r σ (.inl (t.toNat, (n.toNatClampNeg, .inr (.inr (.inr (.inr (fun _ => none))))))) n.toNatClampNeg else none
    | _, _ => none
  | .invokevirtual _ => xinv i aux ls st σ
  | .invokespecial _ => xinv i aux ls st σ
  | .invokestatic _ => xinv i aux ls st σ
  | .ireturn => xret k st
  | .lreturn => match st with
    | [.long v] => some (.inr (.inr (.inl (some (.long v)))))
    | _ => none
  | .areturn => match st with
    | [.ref v] => some (.inr (.inr (.inl (some (.ref v)))))
    | _ => none
  | .return_ => match st with
    | [] => some (.inr (.inr (.inl none)))
    | _ => none
  | _ => none
/-- the run of a method's code from place i on: what comes out, and the cells then; d: how deep calls may go -/
def ax : Nat → Nat → Nat → Nat → xL → List Value → xS → Option (xR × xS)
  | 0, _, _, _, _, _, _ => none
  | n + 1, d, k, i, ls, st, σ => match ft k i with
    | none => none
    | some q => match stp k i q.2.1 q.2.2 ls st σ with
      | none => none
      | some (.inl (i', ls', st', σ')) => ax n d k i' ls' st' σ'
      | some (.inr (.inl (k', args, rest))) => match d with
        | 0 => none
        | d' + 1 => match ax n d' k' 0 (xentry args (xmlf k')) [] σ with
          | none => none
          | some (.inl v, σ') => ax n (d' + 1) k (i + 1) ls (v.toList ++ rest) σ'
          | some (.inr e, σ') => match xhd k i e with
            | none => none
            | some h => ax n (d' + 1) k h.1 ((xkill ls h.2).set h.2 none) [] σ'
      | some (.inr (.inr (.inl v))) => some (.inl v, σ)
      | some (.inr (.inr (.inr e))) => some (.inr e, (σ.1, (σ.2.1.1 + 1, σ.2.1.2 + 6), σ.2.2))
