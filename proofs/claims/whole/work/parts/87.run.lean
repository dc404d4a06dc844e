/-! THE LAW'S BEGINNING: the constructors, by computation -/
def μ00 : Me := (true, 0, fun _ => dead, fun _ _ => 0, fun _ _ => 0, fun _ _ => 0)
def run0 : Option Sx := runTo 900 214 28 60 (stx 214 [.ref SCR] μ00)
def chkA (o : Option Sx) : Bool := match o with
  | some (pc, _, st, k, s, fr, n, _) => pc == 28 && st.isEmpty && fr && (n == 379) && Nat.ble k 600000 && Nat.ble s 7200000
  | none => false
theorem run0_A : chkA run0 = true := by decide +kernel
