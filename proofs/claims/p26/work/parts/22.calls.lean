/-! THE REFERENCE: its public methods that change something -/
section MC
variable {d : Nat} {σ : aS} {Q : aQ} {m : Nat} {st kp hi sl sv pd : Nat → Int32} {pl at' le fi se : Int32} {rc c : Nat}
theorem mRnd_34 {st : Nat → Int32} {c : Nat} : mRnd st c 34 = st 34 := by
  unfold mRnd
  rw [mAll_env _ (by omega), upd_ne (by omega)]
end MC
