/-! ===== the program in hand, and a check of its pure code against bytes and words ===== -/
def pgAt (mid : Nat) : pgR := (pgL[mid]?).getD pgL_law
def pgEx : Nat → String
  | 0 => "java/lang/IndexOutOfBoundsException"
  | 1 => "java/lang/IllegalArgumentException"
  | _ => "java/lang/IllegalStateException"
def pgTb : List Cond := lw_tbl.filter goodWord
def pgMb (w : Cond) : Bool := decide (w ∈ lw_tbl) && goodWord w
def pgHw (r : pgR) : Cond := match r.2.2.2.1.2.2.1 with
  | [] => .code r.1 r.2.1 r.2.2.2.1.2.1 r.2.2.1
  | _ :: _ => .codeWith r.1 r.2.1 r.2.2.2.1.2.1 r.2.2.1 r.2.2.2.2.1
def pgNC : List (String × String) := [("java/lang/IllegalArgumentException", "java/lang/IndexOutOfBoundsException"), ("java/lang/IllegalStateException", "java/lang/IndexOutOfBoundsException")]
def pgEW : List Cond := lw_tbl.filter pmEwOk
def pgG (mid : Nat) : Option pmM := match pgL[mid]? with
  | some r => some r.2.2.2.1
  | none => none
def pgD : pmD := (vwCl, pgTy, pgG, fun mid => (pgAt mid).1, fun mid => (pgAt mid).2.1, fun mid => (pgAt mid).2.2.1, fun mid => pgHw (pgAt mid) :: pgTb, fun mid => (pgAt mid).2.2.2.2.2.1, fun mid => (pgAt mid).2.2.2.2.2.2, fun mid => (pgAt mid).2.2.2.2.1, pgEx, pgEW, pgSR, pgNC, pgMb)
