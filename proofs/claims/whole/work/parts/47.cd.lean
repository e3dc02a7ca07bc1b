/-! ===== which catch it is ===== -/
def cd0 : String → Int := fun _ => 0
def cd1 (a : String) : String → Int := fun e => if e = a then 1 else 0
def cd2 (a b : String) : String → Int := fun e => if e = a then 1 else if e = b then 2 else 0
def cd3 (a b c : String) : String → Int := fun e => if e = a then 1 else if e = b then 2 else if e = c then 3 else 0
theorem cd1_1 {a : String} : cd1 a a = 1 := if_pos rfl
theorem cd2_1 {a b : String} : cd2 a b a = 1 := if_pos rfl
theorem cd2_2 {a b : String} (h : b ≠ a) : cd2 a b b = 2 := (if_neg h).trans (if_pos rfl)
theorem cd3_1 {a b c : String} : cd3 a b c a = 1 := if_pos rfl
theorem cd3_2 {a b c : String} (h : b ≠ a) : cd3 a b c b = 2 := (if_neg h).trans (if_pos rfl)
theorem cd3_3 {a b c : String} (h : c ≠ a) (h2 : c ≠ b) : cd3 a b c c = 3 := (if_neg h).trans ((if_neg h2).trans (if_pos rfl))
theorem ne_IA_UO : eIA ≠ eUO := by decide +kernel
theorem ne_IA_IB : eIA ≠ eIB := by decide +kernel
theorem ne_IA_NS : eIA ≠ eNS := by decide +kernel
theorem ne_IA_IS : eIA ≠ eIS := by decide +kernel
theorem ne_IA_AE : eIA ≠ eAE := by decide +kernel
theorem ne_UO_IA : eUO ≠ eIA := by decide +kernel
theorem ne_UO_IB : eUO ≠ eIB := by decide +kernel
theorem ne_UO_NS : eUO ≠ eNS := by decide +kernel
theorem ne_UO_IS : eUO ≠ eIS := by decide +kernel
theorem ne_UO_AE : eUO ≠ eAE := by decide +kernel
theorem ne_IB_IA : eIB ≠ eIA := by decide +kernel
theorem ne_IB_UO : eIB ≠ eUO := by decide +kernel
theorem ne_IB_NS : eIB ≠ eNS := by decide +kernel
theorem ne_IB_IS : eIB ≠ eIS := by decide +kernel
theorem ne_IB_AE : eIB ≠ eAE := by decide +kernel
theorem ne_NS_IA : eNS ≠ eIA := by decide +kernel
theorem ne_NS_UO : eNS ≠ eUO := by decide +kernel
theorem ne_NS_IB : eNS ≠ eIB := by decide +kernel
theorem ne_NS_IS : eNS ≠ eIS := by decide +kernel
theorem ne_NS_AE : eNS ≠ eAE := by decide +kernel
theorem ne_IS_IA : eIS ≠ eIA := by decide +kernel
theorem ne_IS_UO : eIS ≠ eUO := by decide +kernel
theorem ne_IS_IB : eIS ≠ eIB := by decide +kernel
theorem ne_IS_NS : eIS ≠ eNS := by decide +kernel
theorem ne_IS_AE : eIS ≠ eAE := by decide +kernel
theorem ne_AE_IA : eAE ≠ eIA := by decide +kernel
theorem ne_AE_UO : eAE ≠ eUO := by decide +kernel
theorem ne_AE_IB : eAE ≠ eIB := by decide +kernel
theorem ne_AE_NS : eAE ≠ eNS := by decide +kernel
theorem ne_AE_IS : eAE ≠ eIS := by decide +kernel
