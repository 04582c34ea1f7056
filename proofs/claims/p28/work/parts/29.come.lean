def z_us (x y : Int32) : Int32 := (x.toUInt32 >>> (y.toUInt32 &&& Int32.toUInt32 31)).toInt32
def z_b1 (x : Int32) : Int32 := x - (z_us x 1 &&& 1431655765)
def z_b2 (x : Int32) : Int32 := (x &&& 858993459) + (z_us x 2 &&& 858993459)
def z_b3 (x : Int32) : Int32 := (x + z_us x 4) &&& 252645135
def z_b4 (x : Int32) : Int32 := x + z_us x 8
def z_b5 (x : Int32) : Int32 := x + z_us x 16
def z_bc (x : Int32) : Int32 := z_b5 (z_b4 (z_b3 (z_b2 (z_b1 x)))) &&& 63
theorem z_bc_nI : ∀ t, t < 1024 → z_bc (nI t) = nI (k_n (fun j => t.testBit j) 10) := by decide +kernel
/-- what coming to a state leaves -/
noncomputable def x_come (M : m_S) (nD : Nat) (T : x_T) (t : Nat) (y : Int32) (w : Int64) : x_T := if T.2.2.2.2.1 t = 0 then t_s (t_r T t (g_bits (m_Rch M nD (x_opL M (nI t)) (fun q => tb y q = true)) 32)) t w else if w < T.2.2.2.2.2 t then t_s T t w else T

