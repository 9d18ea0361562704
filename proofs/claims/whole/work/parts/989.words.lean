/-! the fifteen words -/
def w_roof : List Nat := [114, 111, 111, 102]
theorem iw_roof : isWd (SPB + 100 + 0) w_roof := by unfold isWd; decide +kernel
theorem wc_roof (T : Nat → Nat) {t p : Nat} (h : p ≤ t) (ht : t ≤ 120) : (woJ T t (tS T t p) (tE T t p) = (605670 : Int64)) = (wB T t p w_roof = true) := propext (wordIs (tk_ok T h) ht (by decide) (by decide +kernel) (by decide))
def w_wind : List Nat := [119, 105, 110, 100]
theorem iw_wind : isWd (SPB + 100 + 1) w_wind := by unfold isWd; decide +kernel
theorem wc_wind (T : Nat → Nat) {t p : Nat} (h : p ≤ t) (ht : t ≤ 120) : (woJ T t (tS T t p) (tE T t p) = (763332 : Int64)) = (wB T t p w_wind = true) := propext (wordIs (tk_ok T h) ht (by decide) (by decide +kernel) (by decide))
def w_of : List Nat := [111, 102]
theorem iw_of : isWd (SPB + 100 + 2) w_of := by unfold isWd; decide +kernel
theorem wc_of (T : Nat → Nat) {t p : Nat} (h : p ≤ t) (ht : t ≤ 120) : (woJ T t (tS T t p) (tE T t p) = (486 : Int64)) = (wB T t p w_of = true) := propext (wordIs (tk_ok T h) ht (by decide) (by decide +kernel) (by decide))
def w_at : List Nat := [97, 116]
theorem iw_at : isWd (SPB + 100 + 3) w_at := by unfold isWd; decide +kernel
theorem wc_at (T : Nat → Nat) {t p : Nat} (h : p ≤ t) (ht : t ≤ 120) : (woJ T t (tS T t p) (tE T t p) = (52 : Int64)) = (wB T t p w_at = true) := propext (wordIs (tk_ok T h) ht (by decide) (by decide +kernel) (by decide))
def w_high : List Nat := [104, 105, 103, 104]
theorem iw_high : isWd (SPB + 100 + 4) w_high := by unfold isWd; decide +kernel
theorem wc_high (T : Nat → Nat) {t p : Nat} (h : p ≤ t) (ht : t ≤ 120) : (woJ T t (tS T t p) (tE T t p) = (271592 : Int64)) = (wB T t p w_high = true) := propext (wordIs (tk_ok T h) ht (by decide) (by decide +kernel) (by decide))
def w_fire : List Nat := [102, 105, 114, 101]
theorem iw_fire : isWd (SPB + 100 + 5) w_fire := by unfold isWd; decide +kernel
theorem wc_fire (T : Nat → Nat) {t p : Nat} (h : p ≤ t) (ht : t ≤ 120) : (woJ T t (tS T t p) (tE T t p) = (206405 : Int64)) = (wB T t p w_fire = true) := propext (wordIs (tk_ok T h) ht (by decide) (by decide +kernel) (by decide))
def w_from : List Nat := [102, 114, 111, 109]
theorem iw_from : isWd (SPB + 100 + 6) w_from := by unfold isWd; decide +kernel
theorem wc_from (T : Nat → Nat) {t p : Nat} (h : p ≤ t) (ht : t ≤ 120) : (woJ T t (tS T t p) (tE T t p) = (215533 : Int64)) = (wB T t p w_from = true) := propext (wordIs (tk_ok T h) ht (by decide) (by decide +kernel) (by decide))
def w_long : List Nat := [108, 111, 110, 103]
theorem iw_long : isWd (SPB + 100 + 7) w_long := by unfold isWd; decide +kernel
theorem wc_long (T : Nat → Nat) {t p : Nat} (h : p ≤ t) (ht : t ≤ 120) : (woJ T t (tS T t p) (tE T t p) = (409031 : Int64)) = (wB T t p w_long = true) := propext (wordIs (tk_ok T h) ht (by decide) (by decide +kernel) (by decide))
def w_baker : List Nat := [98, 97, 107, 101, 114]
theorem iw_baker : isWd (SPB + 100 + 8) w_baker := by unfold isWd; decide +kernel
theorem wc_baker (T : Nat → Nat) {t p : Nat} (h : p ≤ t) (ht : t ≤ 120) : (woJ T t (tS T t p) (tE T t p) = (2141362 : Int64)) = (wB T t p w_baker = true) := propext (wordIs (tk_ok T h) ht (by decide) (by decide +kernel) (by decide))
def w_tanner : List Nat := [116, 97, 110, 110, 101, 114]
theorem iw_tanner : isWd (SPB + 100 + 9) w_tanner := by unfold isWd; decide +kernel
theorem wc_tanner (T : Nat → Nat) {t p : Nat} (h : p ≤ t) (ht : t ≤ 120) : (woJ T t (tS T t p) (tE T t p) = (672610482 : Int64)) = (wB T t p w_tanner = true) := propext (wordIs (tk_ok T h) ht (by decide) (by decide +kernel) (by decide))
def w_forge : List Nat := [102, 111, 114, 103, 101]
theorem iw_forge : isWd (SPB + 100 + 10) w_forge := by unfold isWd; decide +kernel
theorem wc_forge (T : Nat → Nat) {t p : Nat} (h : p ≤ t) (ht : t ≤ 120) : (woJ T t (tS T t p) (tE T t p) = (6801637 : Int64)) = (wB T t p w_forge = true) := propext (wordIs (tk_ok T h) ht (by decide) (by decide +kernel) (by decide))
def w_oven : List Nat := [111, 118, 101, 110]
theorem iw_oven : isWd (SPB + 100 + 11) w_oven := by unfold isWd; decide +kernel
theorem wc_oven (T : Nat → Nat) {t p : Nat} (h : p ≤ t) (ht : t ≤ 120) : (woJ T t (tS T t p) (tE T t p) = (514222 : Int64)) = (wB T t p w_oven = true) := propext (wordIs (tk_ok T h) ht (by decide) (by decide +kernel) (by decide))
def w_tar : List Nat := [116, 97, 114]
theorem iw_tar : isWd (SPB + 100 + 12) w_tar := by unfold isWd; decide +kernel
theorem wc_tar (T : Nat → Nat) {t p : Nat} (h : p ≤ t) (ht : t ≤ 120) : (woJ T t (tS T t p) (tE T t p) = (20530 : Int64)) = (wB T t p w_tar = true) := propext (wordIs (tk_ok T h) ht (by decide) (by decide +kernel) (by decide))
def w_kiln : List Nat := [107, 105, 108, 110]
theorem iw_kiln : isWd (SPB + 100 + 13) w_kiln := by unfold isWd; decide +kernel
theorem wc_kiln (T : Nat → Nat) {t p : Nat} (h : p ≤ t) (ht : t ≤ 120) : (woJ T t (tS T t p) (tE T t p) = (370062 : Int64)) = (wB T t p w_kiln = true) := propext (wordIs (tk_ok T h) ht (by decide) (by decide +kernel) (by decide))
def w_chimney : List Nat := [99, 104, 105, 109, 110, 101, 121]
theorem iw_chimney : isWd (SPB + 100 + 14) w_chimney := by unfold isWd; decide +kernel
theorem wc_chimney (T : Nat → Nat) {t p : Nat} (h : p ≤ t) (ht : t ≤ 120) : (woJ T t (tS T t p) (tE T t p) = (3499538617 : Int64)) = (wB T t p w_chimney = true) := propext (wordIs (tk_ok T h) ht (by decide) (by decide +kernel) (by decide))
