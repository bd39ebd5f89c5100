def mabs (x : Int32) : Int32 := if 0 ≤ x then x else 0 - x
def mmax (x y : Int32) : Int32 := if x < y then y else x
def mmin (x y : Int32) : Int32 := if y < x then y else x
def vbz (x : Int32) : Prop := x = 0 ∨ x = 1
def strLen : List Nat := [4, 6, 5, 5, 4, 5]
def strByt : List (List Int32) := [[119, 97, 108, 108], [112, 97, 115, 115, 101, 114], [98, 101, 97, 115, 116], [99, 104, 101, 99, 107], [108, 111, 111, 107], [99, 111, 97, 99, 104]]
def sch (i : Nat) (x : Int32) : Int32 := (strByt.getD i []).getD x.toNatClampNeg 0 &&& 255
