/-! ===== what the words mean ===== -/
def pc_isV (v : Int32) : Bool := if v < 0 then false else if 6 ≤ v then false else true
def pc_op (w : Int32) : Int32 := w &&& 255
def pc_k (w : Int32) : Int32 := w >>> 8
def pc_isW (w : Int32) : Bool := if pc_op w = 0 then true else if pc_op w = 1 then pc_isV (pc_k w) else if pc_op w = 11 then pc_isV (pc_k w) else if 12 < pc_op w then false else if pc_k w = 0 then true else false
def pc_ex (w a b : Int32) : Int32 := if pc_op w = 1 ∨ pc_op w = 11 then (if pc_k w = a then b <<< 8 ||| pc_op w else if pc_k w = b then a <<< 8 ||| pc_op w else w) else w
/-- word j of a row of ln words -/
def pc_at (ln : Nat) (f : Nat → Int32) (j : Nat) : Int32 := if j < ln then f j else 0
def pc_next (ln : Nat) (f : Nat → Int32) (o : Int32) : Nat → Nat → Nat
  | 0, _ => ln
  | n + 1, i => if i < ln then (if pc_op (f i) = o then i else pc_next ln f o n (i + 1)) else ln
/-- the exchange of a and b in n words from a on makes of the first row the second -/
def pc_ti (F H : Nat → Int32) (n a b : Nat) (u v : Int32) : Nat → Nat → Bool
  | 0, _ => true
  | k + 1, i => if i < n then (if pc_ex (F (a + i)) u v = H (b + i) then pc_ti F H n a b u v k (i + 1) else false) else true
