/-! the class's own state, and what its methods make of it -/
abbrev CS : Type := Int32 × Int32 × Int32 × Int32 × Int32 × Int32 × Fn × Fn × Fn × Int32 × Int32 × Int32 × Fn
def cLe (c : CS) : Int32 := c.1
def cDn (c : CS) : Int32 := c.2.1
def cUn (c : CS) : Int32 := c.2.2.1
def cMd (c : CS) : Int32 := c.2.2.2.1
def cRc (c : CS) : Int32 := c.2.2.2.2.1
def cWc (c : CS) : Int32 := c.2.2.2.2.2.1
def cW (c : CS) : Fn := c.2.2.2.2.2.2.1
def cP (c : CS) : Fn := c.2.2.2.2.2.2.2.1
def cV (c : CS) : Fn := c.2.2.2.2.2.2.2.2.1
def cLs (c : CS) : Int32 := c.2.2.2.2.2.2.2.2.2.1
def cLf (c : CS) : Int32 := c.2.2.2.2.2.2.2.2.2.2.1
def cLc (c : CS) : Int32 := c.2.2.2.2.2.2.2.2.2.2.2.1
def cX (c : CS) : Fn := c.2.2.2.2.2.2.2.2.2.2.2.2
def sLe (c : CS) (x : Int32) : CS := (x, c.2.1, c.2.2.1, c.2.2.2.1, c.2.2.2.2.1, c.2.2.2.2.2.1, c.2.2.2.2.2.2.1, c.2.2.2.2.2.2.2.1, c.2.2.2.2.2.2.2.2.1, c.2.2.2.2.2.2.2.2.2.1, c.2.2.2.2.2.2.2.2.2.2.1, c.2.2.2.2.2.2.2.2.2.2.2.1, c.2.2.2.2.2.2.2.2.2.2.2.2)
def sDn (c : CS) (x : Int32) : CS := (c.1, x, c.2.2.1, c.2.2.2.1, c.2.2.2.2.1, c.2.2.2.2.2.1, c.2.2.2.2.2.2.1, c.2.2.2.2.2.2.2.1, c.2.2.2.2.2.2.2.2.1, c.2.2.2.2.2.2.2.2.2.1, c.2.2.2.2.2.2.2.2.2.2.1, c.2.2.2.2.2.2.2.2.2.2.2.1, c.2.2.2.2.2.2.2.2.2.2.2.2)
def sUn (c : CS) (x : Int32) : CS := (c.1, c.2.1, x, c.2.2.2.1, c.2.2.2.2.1, c.2.2.2.2.2.1, c.2.2.2.2.2.2.1, c.2.2.2.2.2.2.2.1, c.2.2.2.2.2.2.2.2.1, c.2.2.2.2.2.2.2.2.2.1, c.2.2.2.2.2.2.2.2.2.2.1, c.2.2.2.2.2.2.2.2.2.2.2.1, c.2.2.2.2.2.2.2.2.2.2.2.2)
def sMd (c : CS) (x : Int32) : CS := (c.1, c.2.1, c.2.2.1, x, c.2.2.2.2.1, c.2.2.2.2.2.1, c.2.2.2.2.2.2.1, c.2.2.2.2.2.2.2.1, c.2.2.2.2.2.2.2.2.1, c.2.2.2.2.2.2.2.2.2.1, c.2.2.2.2.2.2.2.2.2.2.1, c.2.2.2.2.2.2.2.2.2.2.2.1, c.2.2.2.2.2.2.2.2.2.2.2.2)
def sRc (c : CS) (x : Int32) : CS := (c.1, c.2.1, c.2.2.1, c.2.2.2.1, x, c.2.2.2.2.2.1, c.2.2.2.2.2.2.1, c.2.2.2.2.2.2.2.1, c.2.2.2.2.2.2.2.2.1, c.2.2.2.2.2.2.2.2.2.1, c.2.2.2.2.2.2.2.2.2.2.1, c.2.2.2.2.2.2.2.2.2.2.2.1, c.2.2.2.2.2.2.2.2.2.2.2.2)
def sWc (c : CS) (x : Int32) : CS := (c.1, c.2.1, c.2.2.1, c.2.2.2.1, c.2.2.2.2.1, x, c.2.2.2.2.2.2.1, c.2.2.2.2.2.2.2.1, c.2.2.2.2.2.2.2.2.1, c.2.2.2.2.2.2.2.2.2.1, c.2.2.2.2.2.2.2.2.2.2.1, c.2.2.2.2.2.2.2.2.2.2.2.1, c.2.2.2.2.2.2.2.2.2.2.2.2)
def sW (c : CS) (x : Fn) : CS := (c.1, c.2.1, c.2.2.1, c.2.2.2.1, c.2.2.2.2.1, c.2.2.2.2.2.1, x, c.2.2.2.2.2.2.2.1, c.2.2.2.2.2.2.2.2.1, c.2.2.2.2.2.2.2.2.2.1, c.2.2.2.2.2.2.2.2.2.2.1, c.2.2.2.2.2.2.2.2.2.2.2.1, c.2.2.2.2.2.2.2.2.2.2.2.2)
def sP (c : CS) (x : Fn) : CS := (c.1, c.2.1, c.2.2.1, c.2.2.2.1, c.2.2.2.2.1, c.2.2.2.2.2.1, c.2.2.2.2.2.2.1, x, c.2.2.2.2.2.2.2.2.1, c.2.2.2.2.2.2.2.2.2.1, c.2.2.2.2.2.2.2.2.2.2.1, c.2.2.2.2.2.2.2.2.2.2.2.1, c.2.2.2.2.2.2.2.2.2.2.2.2)
def sV (c : CS) (x : Fn) : CS := (c.1, c.2.1, c.2.2.1, c.2.2.2.1, c.2.2.2.2.1, c.2.2.2.2.2.1, c.2.2.2.2.2.2.1, c.2.2.2.2.2.2.2.1, x, c.2.2.2.2.2.2.2.2.2.1, c.2.2.2.2.2.2.2.2.2.2.1, c.2.2.2.2.2.2.2.2.2.2.2.1, c.2.2.2.2.2.2.2.2.2.2.2.2)
def sLs (c : CS) (x : Int32) : CS := (c.1, c.2.1, c.2.2.1, c.2.2.2.1, c.2.2.2.2.1, c.2.2.2.2.2.1, c.2.2.2.2.2.2.1, c.2.2.2.2.2.2.2.1, c.2.2.2.2.2.2.2.2.1, x, c.2.2.2.2.2.2.2.2.2.2.1, c.2.2.2.2.2.2.2.2.2.2.2.1, c.2.2.2.2.2.2.2.2.2.2.2.2)
def sLf (c : CS) (x : Int32) : CS := (c.1, c.2.1, c.2.2.1, c.2.2.2.1, c.2.2.2.2.1, c.2.2.2.2.2.1, c.2.2.2.2.2.2.1, c.2.2.2.2.2.2.2.1, c.2.2.2.2.2.2.2.2.1, c.2.2.2.2.2.2.2.2.2.1, x, c.2.2.2.2.2.2.2.2.2.2.2.1, c.2.2.2.2.2.2.2.2.2.2.2.2)
def sLc (c : CS) (x : Int32) : CS := (c.1, c.2.1, c.2.2.1, c.2.2.2.1, c.2.2.2.2.1, c.2.2.2.2.2.1, c.2.2.2.2.2.2.1, c.2.2.2.2.2.2.2.1, c.2.2.2.2.2.2.2.2.1, c.2.2.2.2.2.2.2.2.2.1, c.2.2.2.2.2.2.2.2.2.2.1, x, c.2.2.2.2.2.2.2.2.2.2.2.2)
def sX (c : CS) (x : Fn) : CS := (c.1, c.2.1, c.2.2.1, c.2.2.2.1, c.2.2.2.2.1, c.2.2.2.2.2.1, c.2.2.2.2.2.2.1, c.2.2.2.2.2.2.2.1, c.2.2.2.2.2.2.2.2.1, c.2.2.2.2.2.2.2.2.2.1, c.2.2.2.2.2.2.2.2.2.2.1, c.2.2.2.2.2.2.2.2.2.2.2.1, x)
theorem cLe_sLe (c : CS) (x : Int32) : cLe (sLe c x) = x := rfl
theorem cLe_sDn (c : CS) (x : Int32) : cLe (sDn c x) = cLe c := rfl
theorem cLe_sUn (c : CS) (x : Int32) : cLe (sUn c x) = cLe c := rfl
theorem cLe_sMd (c : CS) (x : Int32) : cLe (sMd c x) = cLe c := rfl
theorem cLe_sRc (c : CS) (x : Int32) : cLe (sRc c x) = cLe c := rfl
theorem cLe_sWc (c : CS) (x : Int32) : cLe (sWc c x) = cLe c := rfl
theorem cLe_sW (c : CS) (x : Fn) : cLe (sW c x) = cLe c := rfl
theorem cLe_sP (c : CS) (x : Fn) : cLe (sP c x) = cLe c := rfl
theorem cLe_sV (c : CS) (x : Fn) : cLe (sV c x) = cLe c := rfl
theorem cLe_sLs (c : CS) (x : Int32) : cLe (sLs c x) = cLe c := rfl
theorem cLe_sLf (c : CS) (x : Int32) : cLe (sLf c x) = cLe c := rfl
theorem cLe_sLc (c : CS) (x : Int32) : cLe (sLc c x) = cLe c := rfl
theorem cLe_sX (c : CS) (x : Fn) : cLe (sX c x) = cLe c := rfl
theorem cDn_sLe (c : CS) (x : Int32) : cDn (sLe c x) = cDn c := rfl
theorem cDn_sDn (c : CS) (x : Int32) : cDn (sDn c x) = x := rfl
theorem cDn_sUn (c : CS) (x : Int32) : cDn (sUn c x) = cDn c := rfl
theorem cDn_sMd (c : CS) (x : Int32) : cDn (sMd c x) = cDn c := rfl
theorem cDn_sRc (c : CS) (x : Int32) : cDn (sRc c x) = cDn c := rfl
theorem cDn_sWc (c : CS) (x : Int32) : cDn (sWc c x) = cDn c := rfl
theorem cDn_sW (c : CS) (x : Fn) : cDn (sW c x) = cDn c := rfl
theorem cDn_sP (c : CS) (x : Fn) : cDn (sP c x) = cDn c := rfl
theorem cDn_sV (c : CS) (x : Fn) : cDn (sV c x) = cDn c := rfl
theorem cDn_sLs (c : CS) (x : Int32) : cDn (sLs c x) = cDn c := rfl
theorem cDn_sLf (c : CS) (x : Int32) : cDn (sLf c x) = cDn c := rfl
theorem cDn_sLc (c : CS) (x : Int32) : cDn (sLc c x) = cDn c := rfl
theorem cDn_sX (c : CS) (x : Fn) : cDn (sX c x) = cDn c := rfl
theorem cUn_sLe (c : CS) (x : Int32) : cUn (sLe c x) = cUn c := rfl
theorem cUn_sDn (c : CS) (x : Int32) : cUn (sDn c x) = cUn c := rfl
theorem cUn_sUn (c : CS) (x : Int32) : cUn (sUn c x) = x := rfl
theorem cUn_sMd (c : CS) (x : Int32) : cUn (sMd c x) = cUn c := rfl
theorem cUn_sRc (c : CS) (x : Int32) : cUn (sRc c x) = cUn c := rfl
theorem cUn_sWc (c : CS) (x : Int32) : cUn (sWc c x) = cUn c := rfl
theorem cUn_sW (c : CS) (x : Fn) : cUn (sW c x) = cUn c := rfl
theorem cUn_sP (c : CS) (x : Fn) : cUn (sP c x) = cUn c := rfl
theorem cUn_sV (c : CS) (x : Fn) : cUn (sV c x) = cUn c := rfl
theorem cUn_sLs (c : CS) (x : Int32) : cUn (sLs c x) = cUn c := rfl
theorem cUn_sLf (c : CS) (x : Int32) : cUn (sLf c x) = cUn c := rfl
theorem cUn_sLc (c : CS) (x : Int32) : cUn (sLc c x) = cUn c := rfl
theorem cUn_sX (c : CS) (x : Fn) : cUn (sX c x) = cUn c := rfl
theorem cMd_sLe (c : CS) (x : Int32) : cMd (sLe c x) = cMd c := rfl
theorem cMd_sDn (c : CS) (x : Int32) : cMd (sDn c x) = cMd c := rfl
theorem cMd_sUn (c : CS) (x : Int32) : cMd (sUn c x) = cMd c := rfl
theorem cMd_sMd (c : CS) (x : Int32) : cMd (sMd c x) = x := rfl
theorem cMd_sRc (c : CS) (x : Int32) : cMd (sRc c x) = cMd c := rfl
theorem cMd_sWc (c : CS) (x : Int32) : cMd (sWc c x) = cMd c := rfl
theorem cMd_sW (c : CS) (x : Fn) : cMd (sW c x) = cMd c := rfl
theorem cMd_sP (c : CS) (x : Fn) : cMd (sP c x) = cMd c := rfl
theorem cMd_sV (c : CS) (x : Fn) : cMd (sV c x) = cMd c := rfl
theorem cMd_sLs (c : CS) (x : Int32) : cMd (sLs c x) = cMd c := rfl
theorem cMd_sLf (c : CS) (x : Int32) : cMd (sLf c x) = cMd c := rfl
theorem cMd_sLc (c : CS) (x : Int32) : cMd (sLc c x) = cMd c := rfl
theorem cMd_sX (c : CS) (x : Fn) : cMd (sX c x) = cMd c := rfl
theorem cRc_sLe (c : CS) (x : Int32) : cRc (sLe c x) = cRc c := rfl
theorem cRc_sDn (c : CS) (x : Int32) : cRc (sDn c x) = cRc c := rfl
theorem cRc_sUn (c : CS) (x : Int32) : cRc (sUn c x) = cRc c := rfl
theorem cRc_sMd (c : CS) (x : Int32) : cRc (sMd c x) = cRc c := rfl
theorem cRc_sRc (c : CS) (x : Int32) : cRc (sRc c x) = x := rfl
theorem cRc_sWc (c : CS) (x : Int32) : cRc (sWc c x) = cRc c := rfl
theorem cRc_sW (c : CS) (x : Fn) : cRc (sW c x) = cRc c := rfl
theorem cRc_sP (c : CS) (x : Fn) : cRc (sP c x) = cRc c := rfl
theorem cRc_sV (c : CS) (x : Fn) : cRc (sV c x) = cRc c := rfl
theorem cRc_sLs (c : CS) (x : Int32) : cRc (sLs c x) = cRc c := rfl
theorem cRc_sLf (c : CS) (x : Int32) : cRc (sLf c x) = cRc c := rfl
theorem cRc_sLc (c : CS) (x : Int32) : cRc (sLc c x) = cRc c := rfl
theorem cRc_sX (c : CS) (x : Fn) : cRc (sX c x) = cRc c := rfl
theorem cWc_sLe (c : CS) (x : Int32) : cWc (sLe c x) = cWc c := rfl
theorem cWc_sDn (c : CS) (x : Int32) : cWc (sDn c x) = cWc c := rfl
theorem cWc_sUn (c : CS) (x : Int32) : cWc (sUn c x) = cWc c := rfl
theorem cWc_sMd (c : CS) (x : Int32) : cWc (sMd c x) = cWc c := rfl
theorem cWc_sRc (c : CS) (x : Int32) : cWc (sRc c x) = cWc c := rfl
theorem cWc_sWc (c : CS) (x : Int32) : cWc (sWc c x) = x := rfl
theorem cWc_sW (c : CS) (x : Fn) : cWc (sW c x) = cWc c := rfl
theorem cWc_sP (c : CS) (x : Fn) : cWc (sP c x) = cWc c := rfl
theorem cWc_sV (c : CS) (x : Fn) : cWc (sV c x) = cWc c := rfl
theorem cWc_sLs (c : CS) (x : Int32) : cWc (sLs c x) = cWc c := rfl
theorem cWc_sLf (c : CS) (x : Int32) : cWc (sLf c x) = cWc c := rfl
theorem cWc_sLc (c : CS) (x : Int32) : cWc (sLc c x) = cWc c := rfl
theorem cWc_sX (c : CS) (x : Fn) : cWc (sX c x) = cWc c := rfl
theorem cW_sLe (c : CS) (x : Int32) : cW (sLe c x) = cW c := rfl
theorem cW_sDn (c : CS) (x : Int32) : cW (sDn c x) = cW c := rfl
theorem cW_sUn (c : CS) (x : Int32) : cW (sUn c x) = cW c := rfl
theorem cW_sMd (c : CS) (x : Int32) : cW (sMd c x) = cW c := rfl
theorem cW_sRc (c : CS) (x : Int32) : cW (sRc c x) = cW c := rfl
theorem cW_sWc (c : CS) (x : Int32) : cW (sWc c x) = cW c := rfl
theorem cW_sW (c : CS) (x : Fn) : cW (sW c x) = x := rfl
theorem cW_sP (c : CS) (x : Fn) : cW (sP c x) = cW c := rfl
theorem cW_sV (c : CS) (x : Fn) : cW (sV c x) = cW c := rfl
theorem cW_sLs (c : CS) (x : Int32) : cW (sLs c x) = cW c := rfl
theorem cW_sLf (c : CS) (x : Int32) : cW (sLf c x) = cW c := rfl
theorem cW_sLc (c : CS) (x : Int32) : cW (sLc c x) = cW c := rfl
theorem cW_sX (c : CS) (x : Fn) : cW (sX c x) = cW c := rfl
theorem cP_sLe (c : CS) (x : Int32) : cP (sLe c x) = cP c := rfl
theorem cP_sDn (c : CS) (x : Int32) : cP (sDn c x) = cP c := rfl
theorem cP_sUn (c : CS) (x : Int32) : cP (sUn c x) = cP c := rfl
theorem cP_sMd (c : CS) (x : Int32) : cP (sMd c x) = cP c := rfl
theorem cP_sRc (c : CS) (x : Int32) : cP (sRc c x) = cP c := rfl
theorem cP_sWc (c : CS) (x : Int32) : cP (sWc c x) = cP c := rfl
theorem cP_sW (c : CS) (x : Fn) : cP (sW c x) = cP c := rfl
theorem cP_sP (c : CS) (x : Fn) : cP (sP c x) = x := rfl
theorem cP_sV (c : CS) (x : Fn) : cP (sV c x) = cP c := rfl
theorem cP_sLs (c : CS) (x : Int32) : cP (sLs c x) = cP c := rfl
theorem cP_sLf (c : CS) (x : Int32) : cP (sLf c x) = cP c := rfl
theorem cP_sLc (c : CS) (x : Int32) : cP (sLc c x) = cP c := rfl
theorem cP_sX (c : CS) (x : Fn) : cP (sX c x) = cP c := rfl
theorem cV_sLe (c : CS) (x : Int32) : cV (sLe c x) = cV c := rfl
theorem cV_sDn (c : CS) (x : Int32) : cV (sDn c x) = cV c := rfl
theorem cV_sUn (c : CS) (x : Int32) : cV (sUn c x) = cV c := rfl
theorem cV_sMd (c : CS) (x : Int32) : cV (sMd c x) = cV c := rfl
theorem cV_sRc (c : CS) (x : Int32) : cV (sRc c x) = cV c := rfl
theorem cV_sWc (c : CS) (x : Int32) : cV (sWc c x) = cV c := rfl
theorem cV_sW (c : CS) (x : Fn) : cV (sW c x) = cV c := rfl
theorem cV_sP (c : CS) (x : Fn) : cV (sP c x) = cV c := rfl
theorem cV_sV (c : CS) (x : Fn) : cV (sV c x) = x := rfl
theorem cV_sLs (c : CS) (x : Int32) : cV (sLs c x) = cV c := rfl
theorem cV_sLf (c : CS) (x : Int32) : cV (sLf c x) = cV c := rfl
theorem cV_sLc (c : CS) (x : Int32) : cV (sLc c x) = cV c := rfl
theorem cV_sX (c : CS) (x : Fn) : cV (sX c x) = cV c := rfl
theorem cLs_sLe (c : CS) (x : Int32) : cLs (sLe c x) = cLs c := rfl
theorem cLs_sDn (c : CS) (x : Int32) : cLs (sDn c x) = cLs c := rfl
theorem cLs_sUn (c : CS) (x : Int32) : cLs (sUn c x) = cLs c := rfl
theorem cLs_sMd (c : CS) (x : Int32) : cLs (sMd c x) = cLs c := rfl
theorem cLs_sRc (c : CS) (x : Int32) : cLs (sRc c x) = cLs c := rfl
theorem cLs_sWc (c : CS) (x : Int32) : cLs (sWc c x) = cLs c := rfl
theorem cLs_sW (c : CS) (x : Fn) : cLs (sW c x) = cLs c := rfl
theorem cLs_sP (c : CS) (x : Fn) : cLs (sP c x) = cLs c := rfl
theorem cLs_sV (c : CS) (x : Fn) : cLs (sV c x) = cLs c := rfl
theorem cLs_sLs (c : CS) (x : Int32) : cLs (sLs c x) = x := rfl
theorem cLs_sLf (c : CS) (x : Int32) : cLs (sLf c x) = cLs c := rfl
theorem cLs_sLc (c : CS) (x : Int32) : cLs (sLc c x) = cLs c := rfl
theorem cLs_sX (c : CS) (x : Fn) : cLs (sX c x) = cLs c := rfl
theorem cLf_sLe (c : CS) (x : Int32) : cLf (sLe c x) = cLf c := rfl
theorem cLf_sDn (c : CS) (x : Int32) : cLf (sDn c x) = cLf c := rfl
theorem cLf_sUn (c : CS) (x : Int32) : cLf (sUn c x) = cLf c := rfl
theorem cLf_sMd (c : CS) (x : Int32) : cLf (sMd c x) = cLf c := rfl
theorem cLf_sRc (c : CS) (x : Int32) : cLf (sRc c x) = cLf c := rfl
theorem cLf_sWc (c : CS) (x : Int32) : cLf (sWc c x) = cLf c := rfl
theorem cLf_sW (c : CS) (x : Fn) : cLf (sW c x) = cLf c := rfl
theorem cLf_sP (c : CS) (x : Fn) : cLf (sP c x) = cLf c := rfl
theorem cLf_sV (c : CS) (x : Fn) : cLf (sV c x) = cLf c := rfl
theorem cLf_sLs (c : CS) (x : Int32) : cLf (sLs c x) = cLf c := rfl
theorem cLf_sLf (c : CS) (x : Int32) : cLf (sLf c x) = x := rfl
theorem cLf_sLc (c : CS) (x : Int32) : cLf (sLc c x) = cLf c := rfl
theorem cLf_sX (c : CS) (x : Fn) : cLf (sX c x) = cLf c := rfl
theorem cLc_sLe (c : CS) (x : Int32) : cLc (sLe c x) = cLc c := rfl
theorem cLc_sDn (c : CS) (x : Int32) : cLc (sDn c x) = cLc c := rfl
theorem cLc_sUn (c : CS) (x : Int32) : cLc (sUn c x) = cLc c := rfl
theorem cLc_sMd (c : CS) (x : Int32) : cLc (sMd c x) = cLc c := rfl
theorem cLc_sRc (c : CS) (x : Int32) : cLc (sRc c x) = cLc c := rfl
theorem cLc_sWc (c : CS) (x : Int32) : cLc (sWc c x) = cLc c := rfl
theorem cLc_sW (c : CS) (x : Fn) : cLc (sW c x) = cLc c := rfl
theorem cLc_sP (c : CS) (x : Fn) : cLc (sP c x) = cLc c := rfl
theorem cLc_sV (c : CS) (x : Fn) : cLc (sV c x) = cLc c := rfl
theorem cLc_sLs (c : CS) (x : Int32) : cLc (sLs c x) = cLc c := rfl
theorem cLc_sLf (c : CS) (x : Int32) : cLc (sLf c x) = cLc c := rfl
theorem cLc_sLc (c : CS) (x : Int32) : cLc (sLc c x) = x := rfl
theorem cLc_sX (c : CS) (x : Fn) : cLc (sX c x) = cLc c := rfl
theorem cX_sLe (c : CS) (x : Int32) : cX (sLe c x) = cX c := rfl
theorem cX_sDn (c : CS) (x : Int32) : cX (sDn c x) = cX c := rfl
theorem cX_sUn (c : CS) (x : Int32) : cX (sUn c x) = cX c := rfl
theorem cX_sMd (c : CS) (x : Int32) : cX (sMd c x) = cX c := rfl
theorem cX_sRc (c : CS) (x : Int32) : cX (sRc c x) = cX c := rfl
theorem cX_sWc (c : CS) (x : Int32) : cX (sWc c x) = cX c := rfl
theorem cX_sW (c : CS) (x : Fn) : cX (sW c x) = cX c := rfl
theorem cX_sP (c : CS) (x : Fn) : cX (sP c x) = cX c := rfl
theorem cX_sV (c : CS) (x : Fn) : cX (sV c x) = cX c := rfl
theorem cX_sLs (c : CS) (x : Int32) : cX (sLs c x) = cX c := rfl
theorem cX_sLf (c : CS) (x : Int32) : cX (sLf c x) = cX c := rfl
theorem cX_sLc (c : CS) (x : Int32) : cX (sLc c x) = cX c := rfl
theorem cX_sX (c : CS) (x : Fn) : cX (sX c x) = x := rfl
theorem tn_of {x : Int32} {n : Nat} (hn : n < 2 ^ 31) (h : ¬ x < 0 ∧ ¬ nI n ≤ x) : tn x < n ∧ x = nI (tn x) := by
  rcases pk_ix x hn with h1 | h1 | ⟨j, hj, rfl⟩
  · exact absurd h1 h.1
  · exact absurd h1 h.2
  · rw [tn_nI (by omega)]; exact ⟨hj, rfl⟩
def un64 (w : Int32) : Int64 := w.toInt64 &&& 4294967295
def cRef (N S : Nat) (c : CS) : Int32 := if cDn c = 0 then (if 2 < cntB (cP c) (nI S) N then -3 else 0) else -2
def inB (N S : Nat) (x : Int32) : Prop := ¬ x < 0 ∧ ¬ nI (S * (N - 2)) ≤ x
def cStop (c : CS) : CS := sUn (sDn c 1) (-1)
def cInc (c : CS) : CS := sMd c (cMd c + 1)
def cBeg (c : CS) : Bool × CS := if cUn c = 0 then (false, cStop c) else if cUn c = -1 then (true, cInc c) else (true, cInc (sUn c (cUn c - 1)))
def cLd (N S b : Nat) (c : CS) : CS := sV c (ldV N S b (cW c) (cP c) (cV c))
def cRA (N S b : Nat) (c : CS) : CS := sRc (cLd N S b c) (cRc (cLd N S b c) + nI (cntA (cP (cLd N S b c)) (nI b) N))
def cPut (S a b : Nat) (w : Int32) (c : CS) : CS := sWc (sW c (upd (cW c) (a * S + b) w)) (cWc (sW c (upd (cW c) (a * S + b) w)) + 1)
def cWr (S a b : Nat) (w : Int32) (c : CS) : Bool × CS := if (cBeg c).1 = false then (false, (cBeg c).2) else (true, cPut S a b w (cBeg c).2)
def cActs : Nat → CS → Bool × CS
  | 0, c => (true, c)
  | k + 1, c => if (cBeg c).1 = false then (false, (cBeg c).2) else cActs k (cBeg c).2
def cpy (N : Nat) (V X : Fn) : Nat → Fn
  | 0 => X
  | k + 1 => upd (cpy N V X k) k (V k)
def cSeal (N b f k : Nat) (c : CS) : CS := sX (sLc (sLf (sLs c (nI b)) (nI f)) (nI k)) (cpy N (cV c) (cX c) N)
def cLog (N b f k : Nat) (c : CS) : Bool × CS := if (cActs (k + 2) c).1 = false then (false, (cActs (k + 2) c).2) else if (cBeg (cActs (k + 2) c).2).1 = false then (false, (cBeg (cActs (k + 2) c).2).2) else (true, cSeal N b f k (cBeg (cActs (k + 2) c).2).2)
def cBears (N : Nat) (c : CS) (a : Nat) : Prop := N - 2 ≤ a ∨ (cLf c ≤ nI a ∧ nI a < cLf c + cLc c)
noncomputable def cCarL (N S b : Nat) : Nat → CS → Bool × CS
  | 0, c => (true, c)
  | k + 1, c => if N - 2 ≤ N - (k + 1) ∨ (cLf c ≤ nI (N - (k + 1)) ∧ nI (N - (k + 1)) < cLf c + cLc c) then
      (if nI b < cP c (dk N (N - (k + 1)) b) then
        (if (cWr S (dk N (N - (k + 1)) b) b (cX c (N - (k + 1))) c).1 = false then (false, (cWr S (dk N (N - (k + 1)) b) b (cX c (N - (k + 1))) c).2)
         else cCarL N S b k (cWr S (dk N (N - (k + 1)) b) b (cX c (N - (k + 1))) c).2)
       else cCarL N S b k c)
      else cCarL N S b k c
noncomputable def cCar (N S b : Nat) (c : CS) : Bool × CS := if (cCarL N S b N c).1 = false then (false, (cCarL N S b N c).2) else if (cBeg (cCarL N S b N c).2).1 = false then (false, (cBeg (cCarL N S b N c).2).2) else (true, sLs (cBeg (cCarL N S b N c).2).2 (-1))
def cCol (N S b f k : Nat) (v : Int32) (c : CS) : CS :=
  if cntA (cP (cLd N S b c)) (nI b) N = N then
    (if k + 2 < N - 2 - k then sV (sRc (cLd N S b c) (cRc (cLd N S b c) + nI (k + 2))) (chC N (cV (cLd N S b c)) f v k)
     else sV (sRc (cLd N S b c) (cRc (cLd N S b c) + nI (N - 2 - k))) (setC N (cV (cLd N S b c)) f k v))
  else sV (sRc (cLd N S b c) (cRc (cLd N S b c) + nI (cntA (cP (cLd N S b c)) (nI b) N))) (setC N (cV (cLd N S b c)) f k v)
noncomputable def cWC (N S b f k : Nat) (v : Int32) (c : CS) : Bool × CS := if (cLog N b f k (cCol N S b f k v c)).1 = false then (false, (cLog N b f k (cCol N S b f k v c)).2) else cCar N S b (cLog N b f k (cCol N S b f k v c)).2
