-- the first state: the constructors are run
def g00 : vG := (0, 0, fun _ => 999, fun _ => 0, fun _ _ => none)
def M00 : vM := fun _ _ => 0
def q10 : Option vR := F_X10_init [.ref 0] (gpush g00 9 0 8) (mpush g00 M00)
theorem q10_n : q10.map (fun x => (x.1.isSome, x.2.1.1, x.2.1.2.1)) = some (false, 190, 6983) := by decide +kernel
