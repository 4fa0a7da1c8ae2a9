/-! THE CLASS: undo, slots, the pad's public methods -/
def sRow (sl : Nat → Int32) (s k : Nat) : Int32 := sl (371 * s + k)
def SloR (σ : aS) (x : Nat) (sl sv : Nat → Int32) : Prop := (∃ G, σ.1 (x + 336) = some (eQ 3 2 G) ∧ ∀ s, s < 2 → G s = some (x + 339 + 42 * s)) ∧ ∀ s, s < 2 → σ.1 (x + 339 + 42 * s) = some (eO 4 [.ref (x + 339 + 42 * s + 1), .int (if sv s = nI 0 then nI 0 else nI 1)]) ∧ (∃ st, TabR σ (x + 339 + 42 * s + 1) st) ∧ (¬ sv s = nI 0 → TabR σ (x + 339 + 42 * s + 1) (sRow sl s))
/-- the pad's cells -/
def PaC (σ : aS) (w L : Nat) (sg : Nat → Int32) (po ki fi se : Int32) : Prop := σ.1 w = some (eO 3 (.ref (w + 1) :: qF (nI L) po ki fi se)) ∧ σ.1 (w + 1) = some (eI 80 sg)
section CS1
variable {d : Nat} {σ : aS} {Q : aQ} {x c o rc L : Nat} {st hi sl sv sg : Nat → Int32}
end CS1
