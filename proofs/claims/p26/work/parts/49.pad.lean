/-! THE CLASS: reading the pad -/
def qF (sz po ki fi se : Int32) : List Value := [.int sz, .int po, .int ki, .int fi, .int se]
section CQ2
variable {d : Nat} {σ : aS} {Q : aQ} {w L p : Nat} {sg : Nat → Int32} {fs fs' : List Value} {sz po ki fi se x : Int32}
theorem qF_g0 : (qF sz po ki fi se)[0]? = some (.int sz) := rfl
end CQ2
