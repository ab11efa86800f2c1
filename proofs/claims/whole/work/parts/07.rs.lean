/-! the reference's own state, and what its methods make of it -/
abbrev RS : Type := Int32 × Int32 × Int32 × Int32 × Int32 × Int32 × Int32 × Fn × Fn × Fn × Fn × Int32 × Int32 × Int32
def rLe (r : RS) : Int32 := r.1
def rDn (r : RS) : Int32 := r.2.1
def rAr (r : RS) : Int32 := r.2.2.1
def rUn (r : RS) : Int32 := r.2.2.2.1
def rMd (r : RS) : Int32 := r.2.2.2.2.1
def rRc (r : RS) : Int32 := r.2.2.2.2.2.1
def rWc (r : RS) : Int32 := r.2.2.2.2.2.2.1
def rW (r : RS) : Fn := r.2.2.2.2.2.2.2.1
def rP (r : RS) : Fn := r.2.2.2.2.2.2.2.2.1
def rV (r : RS) : Fn := r.2.2.2.2.2.2.2.2.2.1
def rE (r : RS) : Fn := r.2.2.2.2.2.2.2.2.2.2.1
def rLs (r : RS) : Int32 := r.2.2.2.2.2.2.2.2.2.2.2.1
def rLf (r : RS) : Int32 := r.2.2.2.2.2.2.2.2.2.2.2.2.1
def rLt (r : RS) : Int32 := r.2.2.2.2.2.2.2.2.2.2.2.2.2
def tLe (r : RS) (x : Int32) : RS := (x, r.2.1, r.2.2.1, r.2.2.2.1, r.2.2.2.2.1, r.2.2.2.2.2.1, r.2.2.2.2.2.2.1, r.2.2.2.2.2.2.2.1, r.2.2.2.2.2.2.2.2.1, r.2.2.2.2.2.2.2.2.2.1, r.2.2.2.2.2.2.2.2.2.2.1, r.2.2.2.2.2.2.2.2.2.2.2.1, r.2.2.2.2.2.2.2.2.2.2.2.2.1, r.2.2.2.2.2.2.2.2.2.2.2.2.2)
def tDn (r : RS) (x : Int32) : RS := (r.1, x, r.2.2.1, r.2.2.2.1, r.2.2.2.2.1, r.2.2.2.2.2.1, r.2.2.2.2.2.2.1, r.2.2.2.2.2.2.2.1, r.2.2.2.2.2.2.2.2.1, r.2.2.2.2.2.2.2.2.2.1, r.2.2.2.2.2.2.2.2.2.2.1, r.2.2.2.2.2.2.2.2.2.2.2.1, r.2.2.2.2.2.2.2.2.2.2.2.2.1, r.2.2.2.2.2.2.2.2.2.2.2.2.2)
def tAr (r : RS) (x : Int32) : RS := (r.1, r.2.1, x, r.2.2.2.1, r.2.2.2.2.1, r.2.2.2.2.2.1, r.2.2.2.2.2.2.1, r.2.2.2.2.2.2.2.1, r.2.2.2.2.2.2.2.2.1, r.2.2.2.2.2.2.2.2.2.1, r.2.2.2.2.2.2.2.2.2.2.1, r.2.2.2.2.2.2.2.2.2.2.2.1, r.2.2.2.2.2.2.2.2.2.2.2.2.1, r.2.2.2.2.2.2.2.2.2.2.2.2.2)
def tUn (r : RS) (x : Int32) : RS := (r.1, r.2.1, r.2.2.1, x, r.2.2.2.2.1, r.2.2.2.2.2.1, r.2.2.2.2.2.2.1, r.2.2.2.2.2.2.2.1, r.2.2.2.2.2.2.2.2.1, r.2.2.2.2.2.2.2.2.2.1, r.2.2.2.2.2.2.2.2.2.2.1, r.2.2.2.2.2.2.2.2.2.2.2.1, r.2.2.2.2.2.2.2.2.2.2.2.2.1, r.2.2.2.2.2.2.2.2.2.2.2.2.2)
def tMd (r : RS) (x : Int32) : RS := (r.1, r.2.1, r.2.2.1, r.2.2.2.1, x, r.2.2.2.2.2.1, r.2.2.2.2.2.2.1, r.2.2.2.2.2.2.2.1, r.2.2.2.2.2.2.2.2.1, r.2.2.2.2.2.2.2.2.2.1, r.2.2.2.2.2.2.2.2.2.2.1, r.2.2.2.2.2.2.2.2.2.2.2.1, r.2.2.2.2.2.2.2.2.2.2.2.2.1, r.2.2.2.2.2.2.2.2.2.2.2.2.2)
def tRc (r : RS) (x : Int32) : RS := (r.1, r.2.1, r.2.2.1, r.2.2.2.1, r.2.2.2.2.1, x, r.2.2.2.2.2.2.1, r.2.2.2.2.2.2.2.1, r.2.2.2.2.2.2.2.2.1, r.2.2.2.2.2.2.2.2.2.1, r.2.2.2.2.2.2.2.2.2.2.1, r.2.2.2.2.2.2.2.2.2.2.2.1, r.2.2.2.2.2.2.2.2.2.2.2.2.1, r.2.2.2.2.2.2.2.2.2.2.2.2.2)
def tWc (r : RS) (x : Int32) : RS := (r.1, r.2.1, r.2.2.1, r.2.2.2.1, r.2.2.2.2.1, r.2.2.2.2.2.1, x, r.2.2.2.2.2.2.2.1, r.2.2.2.2.2.2.2.2.1, r.2.2.2.2.2.2.2.2.2.1, r.2.2.2.2.2.2.2.2.2.2.1, r.2.2.2.2.2.2.2.2.2.2.2.1, r.2.2.2.2.2.2.2.2.2.2.2.2.1, r.2.2.2.2.2.2.2.2.2.2.2.2.2)
def tW (r : RS) (x : Fn) : RS := (r.1, r.2.1, r.2.2.1, r.2.2.2.1, r.2.2.2.2.1, r.2.2.2.2.2.1, r.2.2.2.2.2.2.1, x, r.2.2.2.2.2.2.2.2.1, r.2.2.2.2.2.2.2.2.2.1, r.2.2.2.2.2.2.2.2.2.2.1, r.2.2.2.2.2.2.2.2.2.2.2.1, r.2.2.2.2.2.2.2.2.2.2.2.2.1, r.2.2.2.2.2.2.2.2.2.2.2.2.2)
def tP (r : RS) (x : Fn) : RS := (r.1, r.2.1, r.2.2.1, r.2.2.2.1, r.2.2.2.2.1, r.2.2.2.2.2.1, r.2.2.2.2.2.2.1, r.2.2.2.2.2.2.2.1, x, r.2.2.2.2.2.2.2.2.2.1, r.2.2.2.2.2.2.2.2.2.2.1, r.2.2.2.2.2.2.2.2.2.2.2.1, r.2.2.2.2.2.2.2.2.2.2.2.2.1, r.2.2.2.2.2.2.2.2.2.2.2.2.2)
def tV (r : RS) (x : Fn) : RS := (r.1, r.2.1, r.2.2.1, r.2.2.2.1, r.2.2.2.2.1, r.2.2.2.2.2.1, r.2.2.2.2.2.2.1, r.2.2.2.2.2.2.2.1, r.2.2.2.2.2.2.2.2.1, x, r.2.2.2.2.2.2.2.2.2.2.1, r.2.2.2.2.2.2.2.2.2.2.2.1, r.2.2.2.2.2.2.2.2.2.2.2.2.1, r.2.2.2.2.2.2.2.2.2.2.2.2.2)
def tE (r : RS) (x : Fn) : RS := (r.1, r.2.1, r.2.2.1, r.2.2.2.1, r.2.2.2.2.1, r.2.2.2.2.2.1, r.2.2.2.2.2.2.1, r.2.2.2.2.2.2.2.1, r.2.2.2.2.2.2.2.2.1, r.2.2.2.2.2.2.2.2.2.1, x, r.2.2.2.2.2.2.2.2.2.2.2.1, r.2.2.2.2.2.2.2.2.2.2.2.2.1, r.2.2.2.2.2.2.2.2.2.2.2.2.2)
def tLs (r : RS) (x : Int32) : RS := (r.1, r.2.1, r.2.2.1, r.2.2.2.1, r.2.2.2.2.1, r.2.2.2.2.2.1, r.2.2.2.2.2.2.1, r.2.2.2.2.2.2.2.1, r.2.2.2.2.2.2.2.2.1, r.2.2.2.2.2.2.2.2.2.1, r.2.2.2.2.2.2.2.2.2.2.1, x, r.2.2.2.2.2.2.2.2.2.2.2.2.1, r.2.2.2.2.2.2.2.2.2.2.2.2.2)
def tLf (r : RS) (x : Int32) : RS := (r.1, r.2.1, r.2.2.1, r.2.2.2.1, r.2.2.2.2.1, r.2.2.2.2.2.1, r.2.2.2.2.2.2.1, r.2.2.2.2.2.2.2.1, r.2.2.2.2.2.2.2.2.1, r.2.2.2.2.2.2.2.2.2.1, r.2.2.2.2.2.2.2.2.2.2.1, r.2.2.2.2.2.2.2.2.2.2.2.1, x, r.2.2.2.2.2.2.2.2.2.2.2.2.2)
def tLt (r : RS) (x : Int32) : RS := (r.1, r.2.1, r.2.2.1, r.2.2.2.1, r.2.2.2.2.1, r.2.2.2.2.2.1, r.2.2.2.2.2.2.1, r.2.2.2.2.2.2.2.1, r.2.2.2.2.2.2.2.2.1, r.2.2.2.2.2.2.2.2.2.1, r.2.2.2.2.2.2.2.2.2.2.1, r.2.2.2.2.2.2.2.2.2.2.2.1, r.2.2.2.2.2.2.2.2.2.2.2.2.1, x)
theorem rLe_tLe (r : RS) (x : Int32) : rLe (tLe r x) = x := rfl
theorem rLe_tDn (r : RS) (x : Int32) : rLe (tDn r x) = rLe r := rfl
theorem rLe_tAr (r : RS) (x : Int32) : rLe (tAr r x) = rLe r := rfl
theorem rLe_tUn (r : RS) (x : Int32) : rLe (tUn r x) = rLe r := rfl
theorem rLe_tMd (r : RS) (x : Int32) : rLe (tMd r x) = rLe r := rfl
theorem rLe_tRc (r : RS) (x : Int32) : rLe (tRc r x) = rLe r := rfl
theorem rLe_tWc (r : RS) (x : Int32) : rLe (tWc r x) = rLe r := rfl
theorem rLe_tW (r : RS) (x : Fn) : rLe (tW r x) = rLe r := rfl
theorem rLe_tP (r : RS) (x : Fn) : rLe (tP r x) = rLe r := rfl
theorem rLe_tV (r : RS) (x : Fn) : rLe (tV r x) = rLe r := rfl
theorem rLe_tE (r : RS) (x : Fn) : rLe (tE r x) = rLe r := rfl
theorem rLe_tLs (r : RS) (x : Int32) : rLe (tLs r x) = rLe r := rfl
theorem rLe_tLf (r : RS) (x : Int32) : rLe (tLf r x) = rLe r := rfl
theorem rLe_tLt (r : RS) (x : Int32) : rLe (tLt r x) = rLe r := rfl
theorem rDn_tLe (r : RS) (x : Int32) : rDn (tLe r x) = rDn r := rfl
theorem rDn_tDn (r : RS) (x : Int32) : rDn (tDn r x) = x := rfl
theorem rDn_tAr (r : RS) (x : Int32) : rDn (tAr r x) = rDn r := rfl
theorem rDn_tUn (r : RS) (x : Int32) : rDn (tUn r x) = rDn r := rfl
theorem rDn_tMd (r : RS) (x : Int32) : rDn (tMd r x) = rDn r := rfl
theorem rDn_tRc (r : RS) (x : Int32) : rDn (tRc r x) = rDn r := rfl
theorem rDn_tWc (r : RS) (x : Int32) : rDn (tWc r x) = rDn r := rfl
theorem rDn_tW (r : RS) (x : Fn) : rDn (tW r x) = rDn r := rfl
theorem rDn_tP (r : RS) (x : Fn) : rDn (tP r x) = rDn r := rfl
theorem rDn_tV (r : RS) (x : Fn) : rDn (tV r x) = rDn r := rfl
theorem rDn_tE (r : RS) (x : Fn) : rDn (tE r x) = rDn r := rfl
theorem rDn_tLs (r : RS) (x : Int32) : rDn (tLs r x) = rDn r := rfl
theorem rDn_tLf (r : RS) (x : Int32) : rDn (tLf r x) = rDn r := rfl
theorem rDn_tLt (r : RS) (x : Int32) : rDn (tLt r x) = rDn r := rfl
theorem rAr_tLe (r : RS) (x : Int32) : rAr (tLe r x) = rAr r := rfl
theorem rAr_tDn (r : RS) (x : Int32) : rAr (tDn r x) = rAr r := rfl
theorem rAr_tAr (r : RS) (x : Int32) : rAr (tAr r x) = x := rfl
theorem rAr_tUn (r : RS) (x : Int32) : rAr (tUn r x) = rAr r := rfl
theorem rAr_tMd (r : RS) (x : Int32) : rAr (tMd r x) = rAr r := rfl
theorem rAr_tRc (r : RS) (x : Int32) : rAr (tRc r x) = rAr r := rfl
theorem rAr_tWc (r : RS) (x : Int32) : rAr (tWc r x) = rAr r := rfl
theorem rAr_tW (r : RS) (x : Fn) : rAr (tW r x) = rAr r := rfl
theorem rAr_tP (r : RS) (x : Fn) : rAr (tP r x) = rAr r := rfl
theorem rAr_tV (r : RS) (x : Fn) : rAr (tV r x) = rAr r := rfl
theorem rAr_tE (r : RS) (x : Fn) : rAr (tE r x) = rAr r := rfl
theorem rAr_tLs (r : RS) (x : Int32) : rAr (tLs r x) = rAr r := rfl
theorem rAr_tLf (r : RS) (x : Int32) : rAr (tLf r x) = rAr r := rfl
theorem rAr_tLt (r : RS) (x : Int32) : rAr (tLt r x) = rAr r := rfl
theorem rUn_tLe (r : RS) (x : Int32) : rUn (tLe r x) = rUn r := rfl
theorem rUn_tDn (r : RS) (x : Int32) : rUn (tDn r x) = rUn r := rfl
theorem rUn_tAr (r : RS) (x : Int32) : rUn (tAr r x) = rUn r := rfl
theorem rUn_tUn (r : RS) (x : Int32) : rUn (tUn r x) = x := rfl
theorem rUn_tMd (r : RS) (x : Int32) : rUn (tMd r x) = rUn r := rfl
theorem rUn_tRc (r : RS) (x : Int32) : rUn (tRc r x) = rUn r := rfl
theorem rUn_tWc (r : RS) (x : Int32) : rUn (tWc r x) = rUn r := rfl
theorem rUn_tW (r : RS) (x : Fn) : rUn (tW r x) = rUn r := rfl
theorem rUn_tP (r : RS) (x : Fn) : rUn (tP r x) = rUn r := rfl
theorem rUn_tV (r : RS) (x : Fn) : rUn (tV r x) = rUn r := rfl
theorem rUn_tE (r : RS) (x : Fn) : rUn (tE r x) = rUn r := rfl
theorem rUn_tLs (r : RS) (x : Int32) : rUn (tLs r x) = rUn r := rfl
theorem rUn_tLf (r : RS) (x : Int32) : rUn (tLf r x) = rUn r := rfl
theorem rUn_tLt (r : RS) (x : Int32) : rUn (tLt r x) = rUn r := rfl
theorem rMd_tLe (r : RS) (x : Int32) : rMd (tLe r x) = rMd r := rfl
theorem rMd_tDn (r : RS) (x : Int32) : rMd (tDn r x) = rMd r := rfl
theorem rMd_tAr (r : RS) (x : Int32) : rMd (tAr r x) = rMd r := rfl
theorem rMd_tUn (r : RS) (x : Int32) : rMd (tUn r x) = rMd r := rfl
theorem rMd_tMd (r : RS) (x : Int32) : rMd (tMd r x) = x := rfl
theorem rMd_tRc (r : RS) (x : Int32) : rMd (tRc r x) = rMd r := rfl
theorem rMd_tWc (r : RS) (x : Int32) : rMd (tWc r x) = rMd r := rfl
theorem rMd_tW (r : RS) (x : Fn) : rMd (tW r x) = rMd r := rfl
theorem rMd_tP (r : RS) (x : Fn) : rMd (tP r x) = rMd r := rfl
theorem rMd_tV (r : RS) (x : Fn) : rMd (tV r x) = rMd r := rfl
theorem rMd_tE (r : RS) (x : Fn) : rMd (tE r x) = rMd r := rfl
theorem rMd_tLs (r : RS) (x : Int32) : rMd (tLs r x) = rMd r := rfl
theorem rMd_tLf (r : RS) (x : Int32) : rMd (tLf r x) = rMd r := rfl
theorem rMd_tLt (r : RS) (x : Int32) : rMd (tLt r x) = rMd r := rfl
theorem rRc_tLe (r : RS) (x : Int32) : rRc (tLe r x) = rRc r := rfl
theorem rRc_tDn (r : RS) (x : Int32) : rRc (tDn r x) = rRc r := rfl
theorem rRc_tAr (r : RS) (x : Int32) : rRc (tAr r x) = rRc r := rfl
theorem rRc_tUn (r : RS) (x : Int32) : rRc (tUn r x) = rRc r := rfl
theorem rRc_tMd (r : RS) (x : Int32) : rRc (tMd r x) = rRc r := rfl
theorem rRc_tRc (r : RS) (x : Int32) : rRc (tRc r x) = x := rfl
theorem rRc_tWc (r : RS) (x : Int32) : rRc (tWc r x) = rRc r := rfl
theorem rRc_tW (r : RS) (x : Fn) : rRc (tW r x) = rRc r := rfl
theorem rRc_tP (r : RS) (x : Fn) : rRc (tP r x) = rRc r := rfl
theorem rRc_tV (r : RS) (x : Fn) : rRc (tV r x) = rRc r := rfl
theorem rRc_tE (r : RS) (x : Fn) : rRc (tE r x) = rRc r := rfl
theorem rRc_tLs (r : RS) (x : Int32) : rRc (tLs r x) = rRc r := rfl
theorem rRc_tLf (r : RS) (x : Int32) : rRc (tLf r x) = rRc r := rfl
theorem rRc_tLt (r : RS) (x : Int32) : rRc (tLt r x) = rRc r := rfl
theorem rWc_tLe (r : RS) (x : Int32) : rWc (tLe r x) = rWc r := rfl
theorem rWc_tDn (r : RS) (x : Int32) : rWc (tDn r x) = rWc r := rfl
theorem rWc_tAr (r : RS) (x : Int32) : rWc (tAr r x) = rWc r := rfl
theorem rWc_tUn (r : RS) (x : Int32) : rWc (tUn r x) = rWc r := rfl
theorem rWc_tMd (r : RS) (x : Int32) : rWc (tMd r x) = rWc r := rfl
theorem rWc_tRc (r : RS) (x : Int32) : rWc (tRc r x) = rWc r := rfl
theorem rWc_tWc (r : RS) (x : Int32) : rWc (tWc r x) = x := rfl
theorem rWc_tW (r : RS) (x : Fn) : rWc (tW r x) = rWc r := rfl
theorem rWc_tP (r : RS) (x : Fn) : rWc (tP r x) = rWc r := rfl
theorem rWc_tV (r : RS) (x : Fn) : rWc (tV r x) = rWc r := rfl
theorem rWc_tE (r : RS) (x : Fn) : rWc (tE r x) = rWc r := rfl
theorem rWc_tLs (r : RS) (x : Int32) : rWc (tLs r x) = rWc r := rfl
theorem rWc_tLf (r : RS) (x : Int32) : rWc (tLf r x) = rWc r := rfl
theorem rWc_tLt (r : RS) (x : Int32) : rWc (tLt r x) = rWc r := rfl
theorem rW_tLe (r : RS) (x : Int32) : rW (tLe r x) = rW r := rfl
theorem rW_tDn (r : RS) (x : Int32) : rW (tDn r x) = rW r := rfl
theorem rW_tAr (r : RS) (x : Int32) : rW (tAr r x) = rW r := rfl
theorem rW_tUn (r : RS) (x : Int32) : rW (tUn r x) = rW r := rfl
theorem rW_tMd (r : RS) (x : Int32) : rW (tMd r x) = rW r := rfl
theorem rW_tRc (r : RS) (x : Int32) : rW (tRc r x) = rW r := rfl
theorem rW_tWc (r : RS) (x : Int32) : rW (tWc r x) = rW r := rfl
theorem rW_tW (r : RS) (x : Fn) : rW (tW r x) = x := rfl
theorem rW_tP (r : RS) (x : Fn) : rW (tP r x) = rW r := rfl
theorem rW_tV (r : RS) (x : Fn) : rW (tV r x) = rW r := rfl
theorem rW_tE (r : RS) (x : Fn) : rW (tE r x) = rW r := rfl
theorem rW_tLs (r : RS) (x : Int32) : rW (tLs r x) = rW r := rfl
theorem rW_tLf (r : RS) (x : Int32) : rW (tLf r x) = rW r := rfl
theorem rW_tLt (r : RS) (x : Int32) : rW (tLt r x) = rW r := rfl
theorem rP_tLe (r : RS) (x : Int32) : rP (tLe r x) = rP r := rfl
theorem rP_tDn (r : RS) (x : Int32) : rP (tDn r x) = rP r := rfl
theorem rP_tAr (r : RS) (x : Int32) : rP (tAr r x) = rP r := rfl
theorem rP_tUn (r : RS) (x : Int32) : rP (tUn r x) = rP r := rfl
theorem rP_tMd (r : RS) (x : Int32) : rP (tMd r x) = rP r := rfl
theorem rP_tRc (r : RS) (x : Int32) : rP (tRc r x) = rP r := rfl
theorem rP_tWc (r : RS) (x : Int32) : rP (tWc r x) = rP r := rfl
theorem rP_tW (r : RS) (x : Fn) : rP (tW r x) = rP r := rfl
theorem rP_tP (r : RS) (x : Fn) : rP (tP r x) = x := rfl
theorem rP_tV (r : RS) (x : Fn) : rP (tV r x) = rP r := rfl
theorem rP_tE (r : RS) (x : Fn) : rP (tE r x) = rP r := rfl
theorem rP_tLs (r : RS) (x : Int32) : rP (tLs r x) = rP r := rfl
theorem rP_tLf (r : RS) (x : Int32) : rP (tLf r x) = rP r := rfl
theorem rP_tLt (r : RS) (x : Int32) : rP (tLt r x) = rP r := rfl
theorem rV_tLe (r : RS) (x : Int32) : rV (tLe r x) = rV r := rfl
theorem rV_tDn (r : RS) (x : Int32) : rV (tDn r x) = rV r := rfl
theorem rV_tAr (r : RS) (x : Int32) : rV (tAr r x) = rV r := rfl
theorem rV_tUn (r : RS) (x : Int32) : rV (tUn r x) = rV r := rfl
theorem rV_tMd (r : RS) (x : Int32) : rV (tMd r x) = rV r := rfl
theorem rV_tRc (r : RS) (x : Int32) : rV (tRc r x) = rV r := rfl
theorem rV_tWc (r : RS) (x : Int32) : rV (tWc r x) = rV r := rfl
theorem rV_tW (r : RS) (x : Fn) : rV (tW r x) = rV r := rfl
theorem rV_tP (r : RS) (x : Fn) : rV (tP r x) = rV r := rfl
theorem rV_tV (r : RS) (x : Fn) : rV (tV r x) = x := rfl
theorem rV_tE (r : RS) (x : Fn) : rV (tE r x) = rV r := rfl
theorem rV_tLs (r : RS) (x : Int32) : rV (tLs r x) = rV r := rfl
theorem rV_tLf (r : RS) (x : Int32) : rV (tLf r x) = rV r := rfl
theorem rV_tLt (r : RS) (x : Int32) : rV (tLt r x) = rV r := rfl
theorem rE_tLe (r : RS) (x : Int32) : rE (tLe r x) = rE r := rfl
theorem rE_tDn (r : RS) (x : Int32) : rE (tDn r x) = rE r := rfl
theorem rE_tAr (r : RS) (x : Int32) : rE (tAr r x) = rE r := rfl
theorem rE_tUn (r : RS) (x : Int32) : rE (tUn r x) = rE r := rfl
theorem rE_tMd (r : RS) (x : Int32) : rE (tMd r x) = rE r := rfl
theorem rE_tRc (r : RS) (x : Int32) : rE (tRc r x) = rE r := rfl
theorem rE_tWc (r : RS) (x : Int32) : rE (tWc r x) = rE r := rfl
theorem rE_tW (r : RS) (x : Fn) : rE (tW r x) = rE r := rfl
theorem rE_tP (r : RS) (x : Fn) : rE (tP r x) = rE r := rfl
theorem rE_tV (r : RS) (x : Fn) : rE (tV r x) = rE r := rfl
theorem rE_tE (r : RS) (x : Fn) : rE (tE r x) = x := rfl
theorem rE_tLs (r : RS) (x : Int32) : rE (tLs r x) = rE r := rfl
theorem rE_tLf (r : RS) (x : Int32) : rE (tLf r x) = rE r := rfl
theorem rE_tLt (r : RS) (x : Int32) : rE (tLt r x) = rE r := rfl
theorem rLs_tLe (r : RS) (x : Int32) : rLs (tLe r x) = rLs r := rfl
theorem rLs_tDn (r : RS) (x : Int32) : rLs (tDn r x) = rLs r := rfl
theorem rLs_tAr (r : RS) (x : Int32) : rLs (tAr r x) = rLs r := rfl
theorem rLs_tUn (r : RS) (x : Int32) : rLs (tUn r x) = rLs r := rfl
theorem rLs_tMd (r : RS) (x : Int32) : rLs (tMd r x) = rLs r := rfl
theorem rLs_tRc (r : RS) (x : Int32) : rLs (tRc r x) = rLs r := rfl
theorem rLs_tWc (r : RS) (x : Int32) : rLs (tWc r x) = rLs r := rfl
theorem rLs_tW (r : RS) (x : Fn) : rLs (tW r x) = rLs r := rfl
theorem rLs_tP (r : RS) (x : Fn) : rLs (tP r x) = rLs r := rfl
theorem rLs_tV (r : RS) (x : Fn) : rLs (tV r x) = rLs r := rfl
theorem rLs_tE (r : RS) (x : Fn) : rLs (tE r x) = rLs r := rfl
theorem rLs_tLs (r : RS) (x : Int32) : rLs (tLs r x) = x := rfl
theorem rLs_tLf (r : RS) (x : Int32) : rLs (tLf r x) = rLs r := rfl
theorem rLs_tLt (r : RS) (x : Int32) : rLs (tLt r x) = rLs r := rfl
theorem rLf_tLe (r : RS) (x : Int32) : rLf (tLe r x) = rLf r := rfl
theorem rLf_tDn (r : RS) (x : Int32) : rLf (tDn r x) = rLf r := rfl
theorem rLf_tAr (r : RS) (x : Int32) : rLf (tAr r x) = rLf r := rfl
theorem rLf_tUn (r : RS) (x : Int32) : rLf (tUn r x) = rLf r := rfl
theorem rLf_tMd (r : RS) (x : Int32) : rLf (tMd r x) = rLf r := rfl
theorem rLf_tRc (r : RS) (x : Int32) : rLf (tRc r x) = rLf r := rfl
theorem rLf_tWc (r : RS) (x : Int32) : rLf (tWc r x) = rLf r := rfl
theorem rLf_tW (r : RS) (x : Fn) : rLf (tW r x) = rLf r := rfl
theorem rLf_tP (r : RS) (x : Fn) : rLf (tP r x) = rLf r := rfl
theorem rLf_tV (r : RS) (x : Fn) : rLf (tV r x) = rLf r := rfl
theorem rLf_tE (r : RS) (x : Fn) : rLf (tE r x) = rLf r := rfl
theorem rLf_tLs (r : RS) (x : Int32) : rLf (tLs r x) = rLf r := rfl
theorem rLf_tLf (r : RS) (x : Int32) : rLf (tLf r x) = x := rfl
theorem rLf_tLt (r : RS) (x : Int32) : rLf (tLt r x) = rLf r := rfl
theorem rLt_tLe (r : RS) (x : Int32) : rLt (tLe r x) = rLt r := rfl
theorem rLt_tDn (r : RS) (x : Int32) : rLt (tDn r x) = rLt r := rfl
theorem rLt_tAr (r : RS) (x : Int32) : rLt (tAr r x) = rLt r := rfl
theorem rLt_tUn (r : RS) (x : Int32) : rLt (tUn r x) = rLt r := rfl
theorem rLt_tMd (r : RS) (x : Int32) : rLt (tMd r x) = rLt r := rfl
theorem rLt_tRc (r : RS) (x : Int32) : rLt (tRc r x) = rLt r := rfl
theorem rLt_tWc (r : RS) (x : Int32) : rLt (tWc r x) = rLt r := rfl
theorem rLt_tW (r : RS) (x : Fn) : rLt (tW r x) = rLt r := rfl
theorem rLt_tP (r : RS) (x : Fn) : rLt (tP r x) = rLt r := rfl
theorem rLt_tV (r : RS) (x : Fn) : rLt (tV r x) = rLt r := rfl
theorem rLt_tE (r : RS) (x : Fn) : rLt (tE r x) = rLt r := rfl
theorem rLt_tLs (r : RS) (x : Int32) : rLt (tLs r x) = rLt r := rfl
theorem rLt_tLf (r : RS) (x : Int32) : rLt (tLf r x) = rLt r := rfl
theorem rLt_tLt (r : RS) (x : Int32) : rLt (tLt r x) = x := rfl
theorem ln_row {t : Nat} (h : t < 4) (w : Int32) : ((w.toUInt32 >>> ((nI (8 * t)).toUInt32 &&& Int32.toUInt32 31)).toInt32 &&& 255) = nI (ln t w) := by
  rw [pk_and _ (m := 255) 8 (by decide), pk_ushr w (nI (8 * t)) (8 * t) (s_u (8 * t) (by omega))]
  rfl
def tmL (w : Int32) (i : Nat) : Nat → Int32
  | 0 => 0
  | k + 1 => tmL w i k ||| (nI (btN i (ln k w)) <<< (nI (8 * k) &&& 31))
def unL (w : Int32) (j t : Nat) (o : Int32) : Nat → Int32
  | 0 => o
  | x + 1 => unL w j t o x ||| (if btN j x = ln t w then nI x <<< (nI (8 * t) &&& 31) else 0)
def unO (w : Int32) (j : Nat) : Nat → Int32
  | 0 => 0
  | t + 1 => unL w j t (unO w j t) 256
def slL (i j : Nat) (a b : Int32) (t : Nat) (o : Int32) : Nat → Int32
  | 0 => o
  | x + 1 => slL i j a b t o x ||| (if btN i x ^^^ btN j (x ^^^ ln t a) = ln t b then nI x <<< (nI (8 * t) &&& 31) else 0)
def slO (i j : Nat) (a b : Int32) : Nat → Int32
  | 0 => 0
  | t + 1 => slL i j a b t (slO i j a b t) 256
def rdk (N a b : Nat) : Nat := if a = 8 then dP N b else if a = 9 then (dP N b + 1) % N else (dP N b + 2 + a) % N
theorem rdk_lt {N a b : Nat} (h : 0 < N) : rdk N a b < N := by
  unfold rdk
  split
  · exact dP_lt h
  · split <;> exact Nat.mod_lt _ h
def rHas (N a b : Nat) (Po : Fn) : Prop := nI b < Po (rdk N a b)
def wsR (V : Fn) : Nat → Int32
  | 0 => 0
  | i + 1 => wsR V i ^^^ tmL (V i) i 4
/-- values(s): the columns, and the first two lost ones -/
def rvL (N b : Nat) (W Po V : Fn) : Nat → Fn × Int32 × Int32
  | 0 => (V, -1, -1)
  | i + 1 =>
    if nI b < Po (rdk N i b) then (upd (rvL N b W Po V i).1 i (W (16 * rdk N i b + b)), (rvL N b W Po V i).2.1, (rvL N b W Po V i).2.2)
    else if (rvL N b W Po V i).2.1 < 0 then (upd (rvL N b W Po V i).1 i 0, nI i, (rvL N b W Po V i).2.2)
    else (upd (rvL N b W Po V i).1 i 0, (rvL N b W Po V i).2.1, nI i)
-- the shift of one byte's sum is the sum itself
theorem tm_step {o n : Nat} {t : Nat} (ht : t < 4) (ho : o < 2 ^ (8 * t)) (hn : n < 256) : nI o ||| (nI n <<< (nI (8 * t) &&& 31)) = nI (2 ^ (8 * t) * n + o) := by
  have hp : 2 ^ (8 * t) ≤ 2 ^ 24 := Nat.pow_le_pow_right (by decide) (by omega)
  have h1 : n * 2 ^ (8 * t) ≤ 255 * 2 ^ (8 * t) := Nat.mul_le_mul_right _ (by omega)
  rw [pk_shlN (nI (8 * t) &&& 31) (8 * t) (s_l (8 * t) (by omega)) (by omega), nx_or, Nat.mul_comm n, nt_or n ho]
theorem tm_eq (w : Int32) (i : Nat) : tmL w i 4 = dblN i w := by
  have h0 := btN_lt i (ln_lt 0 w)
  have h1 := btN_lt i (ln_lt 1 w)
  have h2 := btN_lt i (ln_lt 2 w)
  have h3 := btN_lt i (ln_lt 3 w)
  have e0 : tmL w i 1 = nI (btN i (ln 0 w)) := by
    show nI 0 ||| (nI (btN i (ln 0 w)) <<< (nI (8 * 0) &&& 31)) = _
    rw [tm_step (t := 0) (by decide) (by decide) h0]
    simp
  have e1 : tmL w i 2 = nI (2 ^ 8 * btN i (ln 1 w) + btN i (ln 0 w)) := by
    show tmL w i 1 ||| (nI (btN i (ln 1 w)) <<< (nI (8 * 1) &&& 31)) = _
    rw [e0, tm_step (t := 1) (by decide) (by omega) h1]
  have e2 : tmL w i 3 = nI (2 ^ 16 * btN i (ln 2 w) + (2 ^ 8 * btN i (ln 1 w) + btN i (ln 0 w))) := by
    show tmL w i 2 ||| (nI (btN i (ln 2 w)) <<< (nI (8 * 2) &&& 31)) = _
    rw [e1, tm_step (t := 2) (by decide) (by omega) h2]
  show tmL w i 3 ||| (nI (btN i (ln 3 w)) <<< (nI (8 * 3) &&& 31)) = _
  rw [e2, tm_step (t := 3) (by decide) (by omega) h3, dblN_ln]
  rfl
theorem wsR_eq (V : Fn) (n : Nat) : wsR V n = wsA V 0 n := by
  induction n with
  | zero => rfl
  | succ n ih => show wsR V n ^^^ tmL (V n) n 4 = wsA V 0 n ^^^ dblN n (V (0 + n)); rw [ih, tm_eq, Nat.zero_add]
/-- a search over a byte that finds just one -/
theorem un_one {f : Nat → Prop} [DecidablePred f] {g : Nat → Int32} {h : Nat → Int32} {o : Int32} {z : Nat} (h0 : g 0 = o) (hs : ∀ x, g (x + 1) = g x ||| (if f x then h x else 0)) (hz : f z) (hu : ∀ x, x < 256 → f x → x = z) (hz2 : z < 256) : g 256 = o ||| h z := by
  have key : ∀ n, n ≤ 256 → g n = if z < n then o ||| h z else o := by
    intro n
    induction n with
    | zero => intro _; rw [h0, if_neg (by omega)]
    | succ n ih =>
      intro hn
      rw [hs, ih (by omega)]
      by_cases he : n = z
      · subst he
        rw [if_pos hz, if_neg (by omega), if_pos (by omega)]
      · have hf : ¬ f n := fun q => he (hu n (by omega) q)
        rw [if_neg hf, Int32.or_zero]
        by_cases hlt : z < n
        · rw [if_pos hlt, if_pos (by omega)]
        · rw [if_neg hlt, if_neg (by omega)]
  rw [key 256 (Nat.le_refl _), if_pos hz2]
theorem lt_xor8 {x y : Nat} (hx : x < 256) (hy : y < 256) : x ^^^ y < 256 := Nat.xor_lt_two_pow (n := 8) hx hy
theorem unO_tm (w : Int32) (j : Nat) : ∀ t, t ≤ 4 → unO w j t = tmL (hlvN j w) 0 t := by
  intro t
  induction t with
  | zero => intro _; rfl
  | succ t ih =>
    intro ht
    show unL w j t (unO w j t) 256 = tmL (hlvN j w) 0 t ||| (nI (btN 0 (ln t (hlvN j w))) <<< (nI (8 * t) &&& 31))
    rw [ih (by omega)]
    have hz : btN j (ln t (hlvN j w)) = ln t w := by rw [← ln_dblN j _ t (by omega), dblN_hlvN]
    refine un_one (z := ln t (hlvN j w)) (f := fun x => btN j x = ln t w) (g := fun x => unL w j t (tmL (hlvN j w) 0 t) x) (h := fun x => nI x <<< (nI (8 * t) &&& 31)) rfl (fun x => rfl) hz (fun x hx hf => ?_) (ln_lt _ _)
    have h1 : btN j x = btN j (ln t (hlvN j w)) := hf.trans hz.symm
    have h2 : dblN j (nI x) = dblN j (nI (ln t (hlvN j w))) := by rw [dblN_l0 j hx, dblN_l0 j (ln_lt _ _), h1]
    have h3 := ln_lt t (hlvN j w)
    exact (nI_eq (by omega) (by omega)).mp (dblN_inj h2)
theorem unO_eq (w : Int32) (j : Nat) : unO w j 4 = hlvN j w := by rw [unO_tm w j 4 (Nat.le_refl _), tm_eq]; rfl
theorem slO_tm {i j : Nat} (hij : i < j) (hj : j - i < 8) {a b X : Int32} (hX : dblN i X ^^^ dblN j (X ^^^ a) = b) : ∀ t, t ≤ 4 → slO i j a b t = tmL X 0 t := by
  intro t
  induction t with
  | zero => intro _; rfl
  | succ t ih =>
    intro ht
    show slL i j a b t (slO i j a b t) 256 = tmL X 0 t ||| (nI (btN 0 (ln t X)) <<< (nI (8 * t) &&& 31))
    rw [ih (by omega)]
    have hz : btN i (ln t X) ^^^ btN j (ln t X ^^^ ln t a) = ln t b := by
      rw [← hX, ln_xor, ln_dblN i _ t (by omega), ln_dblN j _ t (by omega), ln_xor]
    have la := ln_lt t a
    have lx := ln_lt t X
    refine un_one (z := ln t X) (f := fun x => btN i x ^^^ btN j (x ^^^ ln t a) = ln t b) (g := fun x => slL i j a b t (tmL X 0 t) x) (h := fun x => nI x <<< (nI (8 * t) &&& 31)) rfl (fun x => rfl) hz (fun x hx hf => ?_) (ln_lt _ _)
    have h1 : btN i x ^^^ btN j (x ^^^ ln t a) = btN i (ln t X) ^^^ btN j (ln t X ^^^ ln t a) := hf.trans hz.symm
    have h2 : dblN i (nI x) ^^^ dblN j (nI x ^^^ nI (ln t a)) = dblN i (nI (ln t X)) ^^^ dblN j (nI (ln t X) ^^^ nI (ln t a)) := by
      rw [nx_xor x, nx_xor (ln t X), dblN_l0 i hx, dblN_l0 i lx, dblN_l0 j (lt_xor8 hx la), dblN_l0 j (lt_xor8 lx la), nx_xor, nx_xor, h1]
    rw [dblN_add j, dblN_add j] at h2
    have h3 : dblN i (nI x ^^^ nI (ln t X)) ^^^ dblN j (nI x ^^^ nI (ln t X)) = 0 := by
      rw [dblN_add i, dblN_add j]
      generalize dblN i (nI x) = p1 at h2 ⊢
      generalize dblN j (nI x) = p2 at h2 ⊢
      generalize dblN i (nI (ln t X)) = p3 at h2 ⊢
      generalize dblN j (nI (ln t X)) = p4 at h2 ⊢
      generalize dblN j (nI (ln t a)) = p5 at h2
      have h4 : p1 ^^^ p2 = p3 ^^^ p4 := by
        rw [← Int32.xor_assoc, ← Int32.xor_assoc] at h2
        exact (Int32.xor_left_inj p5).mp h2
      have e : p1 ^^^ p3 ^^^ (p2 ^^^ p4) = (p1 ^^^ p2) ^^^ (p3 ^^^ p4) := by ac_rfl
      rw [e, h4, Int32.xor_self]
    have h5 := Int32.xor_eq_zero_iff.mp (two_one hij hj h3)
    exact (nI_eq (by omega) (by omega)).mp h5
theorem slO_eq {i j : Nat} (hij : i < j) (hj : j - i < 8) {a b X : Int32} (hX : dblN i X ^^^ dblN j (X ^^^ a) = b) : slO i j a b 4 = X := by rw [slO_tm hij hj hX 4 (Nat.le_refl _), tm_eq]; rfl
