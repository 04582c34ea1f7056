theorem z_v0 : vp_in (0 : Int32) 10 := vp_in_nI (n := 0) (by omega) (by omega)
