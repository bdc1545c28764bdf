def lfO (S : gSt) (a : Nat) : Int32 := if S.2.1 13 a = -1 then -1 else S.2.1 13 a - sumA S a (S.1 0 3)
def lfM (S : gSt) (a : Nat) : Int32 := if ggn S a = true ∨ (¬ S.2.1 13 a = -1 ∧ lfO S a < 0) then 0 else lfO S a
def rmM (S : gSt) (o p : Nat) : Nat → Nat → Int32 → Int32
  | 0, _, m => m
  | d + 1, j, m => match askd S o p j with
    | none => m
    | some a => rmM S o p d (j + 1) (rmU m (lfM S a))
def mo_room (S : gSt) (x : Int32) : Int32 × Int32 × gSt := gd (rf_delete S x) 0 S (rmM S (S.1 5 x.toNatClampNeg) (S.1 6 x.toNatClampNeg) 12 0 (-1), S)
