def zf_E_Me_init_L33 (kx : St → Option St) : Nat → St → Int32 → Option St
  | 0, _, _ => none
  | n + 1, σ, x1 => if (64 : Int32) ≤ x1 then kx σ else zz_ck x1 256 (zz_ck x1 256 (zf_E_Me_init_L33 kx n (zz_put (zz_put σ 1 x1.toNatClampNeg (vp_nar .boolean (1 : Int32))) 2 x1.toNatClampNeg (vp_nar .boolean (1 : Int32))) (x1 + (1 : Int32))))
def zf_E_Me_init_L63 (kx : St → Option St) : Nat → St → Int32 → Option St
  | 0, _, _ => none
  | n + 1, σ, x1 => if (256 : Int32) ≤ x1 then kx σ else zz_ck x1 256 (zf_E_Me_init_L63 kx n (zz_put σ 1 x1.toNatClampNeg (vp_nar .boolean (1 : Int32))) (x1 + (1 : Int32)))
def zf_E_Me_init_b31 (σ : St) : Option St := zf_E_Me_init_L33 (fun s2 => zf_E_Me_init_L63 (fun s4 => some s4) 300 s2 (224 : Int32)) 300 σ (0 : Int32)
def zf_G_Re_clear_L2 (kx : St → Option St) : Nat → St → Int32 → Option St
  | 0, _, _ => none
  | n + 1, σ, x1 => if (8 : Int32) ≤ x1 then kx σ else zz_ck x1 8 (zz_ck x1 8 (zf_G_Re_clear_L2 kx n (zz_put (zz_put σ 0 x1.toNatClampNeg (0 : Int32)) 1 x1.toNatClampNeg (15 : Int32)) (x1 + (1 : Int32))))
def zf_G_Re_clear (σ : St) : Option St := zf_G_Re_clear_L2 (fun s2 => some s2) 300 σ (0 : Int32)
def zf_Mo_init_L174 (kx : St → Option St) : Nat → St → Int32 → Option St
  | 0, _, _ => none
  | n + 1, σ, x1 => if (256 : Int32) ≤ x1 then kx σ else if x1 < (64 : Int32) then zz_ck x1 256 (if (64 : Int32) ≤ x1 then zz_ck x1 256 (zf_Mo_init_L174 kx n (zz_put (zz_put σ 6 x1.toNatClampNeg (1 : Int32)) 7 x1.toNatClampNeg (0 : Int32)) (x1 + (1 : Int32))) else zz_ck x1 256 (zf_Mo_init_L174 kx n (zz_put (zz_put σ 6 x1.toNatClampNeg (1 : Int32)) 7 x1.toNatClampNeg (1 : Int32)) (x1 + (1 : Int32)))) else if x1 ≤ (223 : Int32) then zz_ck x1 256 (if (64 : Int32) ≤ x1 then zz_ck x1 256 (zf_Mo_init_L174 kx n (zz_put (zz_put σ 6 x1.toNatClampNeg (0 : Int32)) 7 x1.toNatClampNeg (0 : Int32)) (x1 + (1 : Int32))) else zz_ck x1 256 (zf_Mo_init_L174 kx n (zz_put (zz_put σ 6 x1.toNatClampNeg (0 : Int32)) 7 x1.toNatClampNeg (1 : Int32)) (x1 + (1 : Int32)))) else zz_ck x1 256 (if (64 : Int32) ≤ x1 then zz_ck x1 256 (zf_Mo_init_L174 kx n (zz_put (zz_put σ 6 x1.toNatClampNeg (1 : Int32)) 7 x1.toNatClampNeg (0 : Int32)) (x1 + (1 : Int32))) else zz_ck x1 256 (zf_Mo_init_L174 kx n (zz_put (zz_put σ 6 x1.toNatClampNeg (1 : Int32)) 7 x1.toNatClampNeg (1 : Int32)) (x1 + (1 : Int32))))
def zf_Mo_init_L230 (kx : St → Option St) : Nat → St → Int32 → Option St
  | 0, _, _ => none
  | n + 1, σ, x1 => if (8 : Int32) ≤ x1 then kx σ else zz_ck x1 8 (zf_Mo_init_L230 kx n (zz_put σ 9 x1.toNatClampNeg (15 : Int32)) (x1 + (1 : Int32)))
def zf_Mo_init_b172 (σ : St) : Option St := zf_Mo_init_L174 (fun s7 => zf_Mo_init_L230 (fun s9 => some s9) 300 s7 (0 : Int32)) 300 σ (0 : Int32)
