/-! THE WRAPPERS: they call the class and catch what it throws -/
section WR
variable {h h1 : Hp} {v : Int32}
theorem w341_ok  (hk : HK h 31 = 8) (hc : CL 160 [.ref 31] h = some (.ok (.int v), h1)) (k : HK h1 253 = 104 ∧ HL h1 253 = 1) : CL 341 [.ref 31, .ref 253] h = some (.ok (.int (nI 0)), sJ h1 253 0 v.toInt64) := by
  rw [e341, ck_of hk, hc]
  exact w_fin k.1 k.2
theorem w341_2  (hk : HK h 31 = 8) (hc : CL 160 [.ref 31] h = some (.error 2, h1)) : CL 341 [.ref 31, .ref 253] h = some (.ok (.int (nI 1)), h1) := by
  rw [e341, ck_of hk, hc]
  rfl
theorem w338_ok  (hk : HK h 31 = 8) (hc : CL 182 [.ref 31] h = some (.ok (.int v), h1)) (k : HK h1 253 = 104 ∧ HL h1 253 = 1) : CL 338 [.ref 31, .ref 253] h = some (.ok (.int (nI 0)), sJ h1 253 0 v.toInt64) := by
  rw [e338, ck_of hk, hc]
  exact w_fin k.1 k.2
theorem w338_2  (hk : HK h 31 = 8) (hc : CL 182 [.ref 31] h = some (.error 2, h1)) : CL 338 [.ref 31, .ref 253] h = some (.ok (.int (nI 1)), h1) := by
  rw [e338, ck_of hk, hc]
  rfl
theorem w194_ok  (hk : HK h 31 = 8) (hc : CL 71 [.ref 31] h = some (.ok (.int v), h1)) (k : HK h1 253 = 104 ∧ HL h1 253 = 1) : CL 194 [.ref 31, .ref 253] h = some (.ok (.int (nI 0)), sJ h1 253 0 v.toInt64) := by
  rw [e194, ck_of hk, hc]
  exact w_fin k.1 k.2
theorem w194_4  (hk : HK h 31 = 8) (hc : CL 71 [.ref 31] h = some (.error 4, h1)) : CL 194 [.ref 31, .ref 253] h = some (.ok (.int (nI 1)), h1) := by
  rw [e194, ck_of hk, hc]
  rfl
theorem w193_ok  (hk : HK h 31 = 8) (hc : CL 69 [.ref 31] h = some (.ok (.int v), h1)) (k : HK h1 253 = 104 ∧ HL h1 253 = 1) : CL 193 [.ref 31, .ref 253] h = some (.ok (.int (nI 0)), sJ h1 253 0 v.toInt64) := by
  rw [e193, ck_of hk, hc]
  exact w_fin k.1 k.2
theorem w193_4  (hk : HK h 31 = 8) (hc : CL 69 [.ref 31] h = some (.error 4, h1)) : CL 193 [.ref 31, .ref 253] h = some (.ok (.int (nI 1)), h1) := by
  rw [e193, ck_of hk, hc]
  rfl
theorem w325_ok  (hk : HK h 31 = 8) (hc : CL 174 [.ref 31] h = some (.ok (.int v), h1)) (k : HK h1 253 = 104 ∧ HL h1 253 = 1) : CL 325 [.ref 31, .ref 253] h = some (.ok (.int (nI 0)), sJ h1 253 0 v.toInt64) := by
  rw [e325, ck_of hk, hc]
  exact w_fin k.1 k.2
theorem w325_1  (hk : HK h 31 = 8) (hc : CL 174 [.ref 31] h = some (.error 1, h1)) : CL 325 [.ref 31, .ref 253] h = some (.ok (.int (nI 1)), h1) := by
  rw [e325, ck_of hk, hc]
  rfl
theorem w325_2  (hk : HK h 31 = 8) (hc : CL 174 [.ref 31] h = some (.error 2, h1)) : CL 325 [.ref 31, .ref 253] h = some (.ok (.int (nI 2)), h1) := by
  rw [e325, ck_of hk, hc]
  rfl
theorem w187_ok (a1 : Int32) (hk : HK h 31 = 8) (hc : CL 24 [.ref 31, .int a1] h = some (.ok (.int v), h1)) (k : HK h1 253 = 104 ∧ HL h1 253 = 1) : CL 187 [.ref 31, .int a1, .ref 253] h = some (.ok (.int (nI 0)), sJ h1 253 0 v.toInt64) := by
  rw [e187, ck_of hk, hc]
  exact w_fin k.1 k.2
theorem w187_1 (a1 : Int32) (hk : HK h 31 = 8) (hc : CL 24 [.ref 31, .int a1] h = some (.error 1, h1)) : CL 187 [.ref 31, .int a1, .ref 253] h = some (.ok (.int (nI 1)), h1) := by
  rw [e187, ck_of hk, hc]
  rfl
theorem w187_2 (a1 : Int32) (hk : HK h 31 = 8) (hc : CL 24 [.ref 31, .int a1] h = some (.error 2, h1)) : CL 187 [.ref 31, .int a1, .ref 253] h = some (.ok (.int (nI 2)), h1) := by
  rw [e187, ck_of hk, hc]
  rfl
theorem w322_ok (a1 : Int32) (hk : HK h 31 = 8) (hc : CL 134 [.ref 31, .int a1] h = some (.ok (.int v), h1)) (k : HK h1 253 = 104 ∧ HL h1 253 = 1) : CL 322 [.ref 31, .int a1, .ref 253] h = some (.ok (.int (nI 0)), sJ h1 253 0 v.toInt64) := by
  rw [e322, ck_of hk, hc]
  exact w_fin k.1 k.2
theorem w322_3 (a1 : Int32) (hk : HK h 31 = 8) (hc : CL 134 [.ref 31, .int a1] h = some (.error 3, h1)) : CL 322 [.ref 31, .int a1, .ref 253] h = some (.ok (.int (nI 1)), h1) := by
  rw [e322, ck_of hk, hc]
  rfl
theorem w195_ok (a1 : Int32) (hk : HK h 31 = 8) (hc : CL 97 [.ref 31, .int a1] h = some (.ok (.int v), h1)) (k : HK h1 253 = 104 ∧ HL h1 253 = 1) : CL 195 [.ref 31, .int a1, .ref 253] h = some (.ok (.int (nI 0)), sJ h1 253 0 v.toInt64) := by
  rw [e195, ck_of hk, hc]
  exact w_fin k.1 k.2
theorem w195_1 (a1 : Int32) (hk : HK h 31 = 8) (hc : CL 97 [.ref 31, .int a1] h = some (.error 1, h1)) : CL 195 [.ref 31, .int a1, .ref 253] h = some (.ok (.int (nI 1)), h1) := by
  rw [e195, ck_of hk, hc]
  rfl
theorem w195_4 (a1 : Int32) (hk : HK h 31 = 8) (hc : CL 97 [.ref 31, .int a1] h = some (.error 4, h1)) : CL 195 [.ref 31, .int a1, .ref 253] h = some (.ok (.int (nI 2)), h1) := by
  rw [e195, ck_of hk, hc]
  rfl
theorem w196_ok (a1 : Int32) (a2 : Int32) (hk : HK h 31 = 8) (hc : CL 98 [.ref 31, .int a1, .int a2] h = some (.ok (.int v), h1)) (k : HK h1 253 = 104 ∧ HL h1 253 = 1) : CL 196 [.ref 31, .int a1, .int a2, .ref 253] h = some (.ok (.int (nI 0)), sJ h1 253 0 v.toInt64) := by
  rw [e196, ck_of hk, hc]
  exact w_fin k.1 k.2
theorem w196_1 (a1 : Int32) (a2 : Int32) (hk : HK h 31 = 8) (hc : CL 98 [.ref 31, .int a1, .int a2] h = some (.error 1, h1)) : CL 196 [.ref 31, .int a1, .int a2, .ref 253] h = some (.ok (.int (nI 1)), h1) := by
  rw [e196, ck_of hk, hc]
  rfl
theorem w196_4 (a1 : Int32) (a2 : Int32) (hk : HK h 31 = 8) (hc : CL 98 [.ref 31, .int a1, .int a2] h = some (.error 4, h1)) : CL 196 [.ref 31, .int a1, .int a2, .ref 253] h = some (.ok (.int (nI 2)), h1) := by
  rw [e196, ck_of hk, hc]
  rfl
theorem w302_ok (a1 : Int32) (hk : HK h 31 = 8) (hc : CL 180 [.ref 31, .int a1] h = some (.ok (.int v), h1)) (k : HK h1 253 = 104 ∧ HL h1 253 = 1) : CL 302 [.ref 31, .int a1, .ref 253] h = some (.ok (.int (nI 0)), sJ h1 253 0 v.toInt64) := by
  rw [e302, ck_of hk, hc]
  exact w_fin k.1 k.2
theorem w302_1 (a1 : Int32) (hk : HK h 31 = 8) (hc : CL 180 [.ref 31, .int a1] h = some (.error 1, h1)) : CL 302 [.ref 31, .int a1, .ref 253] h = some (.ok (.int (nI 1)), h1) := by
  rw [e302, ck_of hk, hc]
  rfl
theorem w197_ok (a1 : Int32) (a2 : Int32) (hk : HK h 31 = 8) (hc : CL 110 [.ref 31, .int a1, .int a2] h = some (.ok (.int v), h1)) (k : HK h1 253 = 104 ∧ HL h1 253 = 1) : CL 197 [.ref 31, .int a1, .int a2, .ref 253] h = some (.ok (.int (nI 0)), sJ h1 253 0 v.toInt64) := by
  rw [e197, ck_of hk, hc]
  exact w_fin k.1 k.2
theorem w197_1 (a1 : Int32) (a2 : Int32) (hk : HK h 31 = 8) (hc : CL 110 [.ref 31, .int a1, .int a2] h = some (.error 1, h1)) : CL 197 [.ref 31, .int a1, .int a2, .ref 253] h = some (.ok (.int (nI 1)), h1) := by
  rw [e197, ck_of hk, hc]
  rfl
theorem w197_4 (a1 : Int32) (a2 : Int32) (hk : HK h 31 = 8) (hc : CL 110 [.ref 31, .int a1, .int a2] h = some (.error 4, h1)) : CL 197 [.ref 31, .int a1, .int a2, .ref 253] h = some (.ok (.int (nI 2)), h1) := by
  rw [e197, ck_of hk, hc]
  rfl
theorem w199_ok (a1 : Int32) (a2 : Int32) (a3 : Int32) {p : Bool} (hk : HK h 31 = 8) (hc : CL 126 [.ref 31, .int a1, .int a2, .int a3] h = some (.ok (.int (nI (b2n p))), h1)) (k : HK h1 253 = 104 ∧ HL h1 253 = 1) : CL 199 [.ref 31, .int a1, .int a2, .int a3, .ref 253] h = some (.ok (.int (nI 0)), sJ h1 253 0 (nI (b2n p)).toInt64) := by
  rw [e199, ck_of hk, hc]
  exact w_finb k.1 k.2
theorem w199_1 (a1 : Int32) (a2 : Int32) (a3 : Int32) (hk : HK h 31 = 8) (hc : CL 126 [.ref 31, .int a1, .int a2, .int a3] h = some (.error 1, h1)) : CL 199 [.ref 31, .int a1, .int a2, .int a3, .ref 253] h = some (.ok (.int (nI 1)), h1) := by
  rw [e199, ck_of hk, hc]
  rfl
theorem w199_4 (a1 : Int32) (a2 : Int32) (a3 : Int32) (hk : HK h 31 = 8) (hc : CL 126 [.ref 31, .int a1, .int a2, .int a3] h = some (.error 4, h1)) : CL 199 [.ref 31, .int a1, .int a2, .int a3, .ref 253] h = some (.ok (.int (nI 2)), h1) := by
  rw [e199, ck_of hk, hc]
  rfl
theorem w293_ok (a1 : Int32) (a2 : Int32) (hk : HK h 31 = 8) (hc : CL 136 [.ref 31, .int a1, .int a2] h = some (.ok (.int v), h1)) (k : HK h1 253 = 104 ∧ HL h1 253 = 1) : CL 293 [.ref 31, .int a1, .int a2, .ref 253] h = some (.ok (.int (nI 0)), sJ h1 253 0 v.toInt64) := by
  rw [e293, ck_of hk, hc]
  exact w_fin k.1 k.2
theorem w293_1 (a1 : Int32) (a2 : Int32) (hk : HK h 31 = 8) (hc : CL 136 [.ref 31, .int a1, .int a2] h = some (.error 1, h1)) : CL 293 [.ref 31, .int a1, .int a2, .ref 253] h = some (.ok (.int (nI 1)), h1) := by
  rw [e293, ck_of hk, hc]
  rfl
theorem w287_ok (a1 : Int32) (a2 : Int32) (hk : HK h 31 = 8) (hc : CL 135 [.ref 31, .int a1, .int a2] h = some (.ok (.int v), h1)) (k : HK h1 253 = 104 ∧ HL h1 253 = 1) : CL 287 [.ref 31, .int a1, .int a2, .ref 253] h = some (.ok (.int (nI 0)), sJ h1 253 0 v.toInt64) := by
  rw [e287, ck_of hk, hc]
  exact w_fin k.1 k.2
theorem w287_1 (a1 : Int32) (a2 : Int32) (hk : HK h 31 = 8) (hc : CL 135 [.ref 31, .int a1, .int a2] h = some (.error 1, h1)) : CL 287 [.ref 31, .int a1, .int a2, .ref 253] h = some (.ok (.int (nI 1)), h1) := by
  rw [e287, ck_of hk, hc]
  rfl
theorem w285_ok (a1 : Int32) (a2 : Int32) (hk : HK h 31 = 8) (hc : CL 149 [.ref 31, .int a1, .int a2] h = some (.ok (.int v), h1)) (k : HK h1 253 = 104 ∧ HL h1 253 = 1) : CL 285 [.ref 31, .int a1, .int a2, .ref 253] h = some (.ok (.int (nI 0)), sJ h1 253 0 v.toInt64) := by
  rw [e285, ck_of hk, hc]
  exact w_fin k.1 k.2
theorem w285_1 (a1 : Int32) (a2 : Int32) (hk : HK h 31 = 8) (hc : CL 149 [.ref 31, .int a1, .int a2] h = some (.error 1, h1)) : CL 285 [.ref 31, .int a1, .int a2, .ref 253] h = some (.ok (.int (nI 1)), h1) := by
  rw [e285, ck_of hk, hc]
  rfl
theorem w200_ok (a1 : Int32) (a2 : Int32) (a3 : Int32) (a4 : Int32) {p : Bool} (hk : HK h 31 = 8) (hc : CL 127 [.ref 31, .int a1, .int a2, .int a3, .int a4] h = some (.ok (.int (nI (b2n p))), h1)) (k : HK h1 253 = 104 ∧ HL h1 253 = 1) : CL 200 [.ref 31, .int a1, .int a2, .int a3, .int a4, .ref 253] h = some (.ok (.int (nI 0)), sJ h1 253 0 (nI (b2n p)).toInt64) := by
  rw [e200, ck_of hk, hc]
  exact w_finb k.1 k.2
theorem w200_1 (a1 : Int32) (a2 : Int32) (a3 : Int32) (a4 : Int32) (hk : HK h 31 = 8) (hc : CL 127 [.ref 31, .int a1, .int a2, .int a3, .int a4] h = some (.error 1, h1)) : CL 200 [.ref 31, .int a1, .int a2, .int a3, .int a4, .ref 253] h = some (.ok (.int (nI 1)), h1) := by
  rw [e200, ck_of hk, hc]
  rfl
theorem w200_4 (a1 : Int32) (a2 : Int32) (a3 : Int32) (a4 : Int32) (hk : HK h 31 = 8) (hc : CL 127 [.ref 31, .int a1, .int a2, .int a3, .int a4] h = some (.error 4, h1)) : CL 200 [.ref 31, .int a1, .int a2, .int a3, .int a4, .ref 253] h = some (.ok (.int (nI 2)), h1) := by
  rw [e200, ck_of hk, hc]
  rfl
theorem w279_ok (a1 : Int32) (hk : HK h 31 = 8) (hc : CL 179 [.ref 31, .int a1] h = some (.ok (.int v), h1)) (k : HK h1 253 = 104 ∧ HL h1 253 = 1) : CL 279 [.ref 31, .int a1, .ref 253] h = some (.ok (.int (nI 0)), sJ h1 253 0 v.toInt64) := by
  rw [e279, ck_of hk, hc]
  exact w_fin k.1 k.2
theorem w279_1 (a1 : Int32) (hk : HK h 31 = 8) (hc : CL 179 [.ref 31, .int a1] h = some (.error 1, h1)) : CL 279 [.ref 31, .int a1, .ref 253] h = some (.ok (.int (nI 1)), h1) := by
  rw [e279, ck_of hk, hc]
  rfl
theorem w185_ok (a1 : Int32) (hk : HK h 31 = 8) (hc : CL 16 [.ref 31, .int a1] h = some (.ok (.int v), h1)) (k : HK h1 253 = 104 ∧ HL h1 253 = 1) : CL 185 [.ref 31, .int a1, .ref 253] h = some (.ok (.int (nI 0)), sJ h1 253 0 v.toInt64) := by
  rw [e185, ck_of hk, hc]
  exact w_fin k.1 k.2
theorem w185_1 (a1 : Int32) (hk : HK h 31 = 8) (hc : CL 16 [.ref 31, .int a1] h = some (.error 1, h1)) : CL 185 [.ref 31, .int a1, .ref 253] h = some (.ok (.int (nI 1)), h1) := by
  rw [e185, ck_of hk, hc]
  rfl
theorem w185_4 (a1 : Int32) (hk : HK h 31 = 8) (hc : CL 16 [.ref 31, .int a1] h = some (.error 4, h1)) : CL 185 [.ref 31, .int a1, .ref 253] h = some (.ok (.int (nI 2)), h1) := by
  rw [e185, ck_of hk, hc]
  rfl
theorem w191_ok (a1 : Int32) (hk : HK h 31 = 8) (hc : CL 64 [.ref 31, .int a1] h = some (.ok (.int v), h1)) (k : HK h1 253 = 104 ∧ HL h1 253 = 1) : CL 191 [.ref 31, .int a1, .ref 253] h = some (.ok (.int (nI 0)), sJ h1 253 0 v.toInt64) := by
  rw [e191, ck_of hk, hc]
  exact w_fin k.1 k.2
theorem w191_4 (a1 : Int32) (hk : HK h 31 = 8) (hc : CL 64 [.ref 31, .int a1] h = some (.error 4, h1)) : CL 191 [.ref 31, .int a1, .ref 253] h = some (.ok (.int (nI 1)), h1) := by
  rw [e191, ck_of hk, hc]
  rfl
theorem w268_ok (a1 : Int32) (hk : HK h 31 = 8) (hc : CL 178 [.ref 31, .int a1] h = some (.ok (.int v), h1)) (k : HK h1 253 = 104 ∧ HL h1 253 = 1) : CL 268 [.ref 31, .int a1, .ref 253] h = some (.ok (.int (nI 0)), sJ h1 253 0 v.toInt64) := by
  rw [e268, ck_of hk, hc]
  exact w_fin k.1 k.2
theorem w268_1 (a1 : Int32) (hk : HK h 31 = 8) (hc : CL 178 [.ref 31, .int a1] h = some (.error 1, h1)) : CL 268 [.ref 31, .int a1, .ref 253] h = some (.ok (.int (nI 1)), h1) := by
  rw [e268, ck_of hk, hc]
  rfl
theorem w268_4 (a1 : Int32) (hk : HK h 31 = 8) (hc : CL 178 [.ref 31, .int a1] h = some (.error 4, h1)) : CL 268 [.ref 31, .int a1, .ref 253] h = some (.ok (.int (nI 2)), h1) := by
  rw [e268, ck_of hk, hc]
  rfl
theorem w266_ok (a1 : Int32) (hk : HK h 31 = 8) (hc : CL 142 [.ref 31, .int a1] h = some (.ok (.int v), h1)) (k : HK h1 253 = 104 ∧ HL h1 253 = 1) : CL 266 [.ref 31, .int a1, .ref 253] h = some (.ok (.int (nI 0)), sJ h1 253 0 v.toInt64) := by
  rw [e266, ck_of hk, hc]
  exact w_fin k.1 k.2
theorem w266_1 (a1 : Int32) (hk : HK h 31 = 8) (hc : CL 142 [.ref 31, .int a1] h = some (.error 1, h1)) : CL 266 [.ref 31, .int a1, .ref 253] h = some (.ok (.int (nI 1)), h1) := by
  rw [e266, ck_of hk, hc]
  rfl
theorem w266_4 (a1 : Int32) (hk : HK h 31 = 8) (hc : CL 142 [.ref 31, .int a1] h = some (.error 4, h1)) : CL 266 [.ref 31, .int a1, .ref 253] h = some (.ok (.int (nI 2)), h1) := by
  rw [e266, ck_of hk, hc]
  rfl
theorem w201_ok (a1 : Int32) (a2 : Int32) (hk : HK h 31 = 8) (hc : CL 129 [.ref 31, .int a1, .int a2] h = some (.ok (.int v), h1)) (k : HK h1 253 = 104 ∧ HL h1 253 = 1) : CL 201 [.ref 31, .int a1, .int a2, .ref 253] h = some (.ok (.int (nI 0)), sJ h1 253 0 v.toInt64) := by
  rw [e201, ck_of hk, hc]
  exact w_fin k.1 k.2
theorem w201_1 (a1 : Int32) (a2 : Int32) (hk : HK h 31 = 8) (hc : CL 129 [.ref 31, .int a1, .int a2] h = some (.error 1, h1)) : CL 201 [.ref 31, .int a1, .int a2, .ref 253] h = some (.ok (.int (nI 1)), h1) := by
  rw [e201, ck_of hk, hc]
  rfl
theorem w201_3 (a1 : Int32) (a2 : Int32) (hk : HK h 31 = 8) (hc : CL 129 [.ref 31, .int a1, .int a2] h = some (.error 3, h1)) : CL 201 [.ref 31, .int a1, .int a2, .ref 253] h = some (.ok (.int (nI 2)), h1) := by
  rw [e201, ck_of hk, hc]
  rfl
theorem w190_ok (a1 : Int32) (a2 : Int32) (hk : HK h 31 = 8) (hc : CL 62 [.ref 31, .int a1, .int a2] h = some (.ok (.int v), h1)) (k : HK h1 253 = 104 ∧ HL h1 253 = 1) : CL 190 [.ref 31, .int a1, .int a2, .ref 253] h = some (.ok (.int (nI 0)), sJ h1 253 0 v.toInt64) := by
  rw [e190, ck_of hk, hc]
  exact w_fin k.1 k.2
theorem w190_1 (a1 : Int32) (a2 : Int32) (hk : HK h 31 = 8) (hc : CL 62 [.ref 31, .int a1, .int a2] h = some (.error 1, h1)) : CL 190 [.ref 31, .int a1, .int a2, .ref 253] h = some (.ok (.int (nI 1)), h1) := by
  rw [e190, ck_of hk, hc]
  rfl
theorem w190_4 (a1 : Int32) (a2 : Int32) (hk : HK h 31 = 8) (hc : CL 62 [.ref 31, .int a1, .int a2] h = some (.error 4, h1)) : CL 190 [.ref 31, .int a1, .int a2, .ref 253] h = some (.ok (.int (nI 2)), h1) := by
  rw [e190, ck_of hk, hc]
  rfl
theorem w186_ok (a1 : Int32) (a2 : Int32) (hk : HK h 31 = 8) (hc : CL 22 [.ref 31, .int a1, .int a2] h = some (.ok (.int v), h1)) (k : HK h1 253 = 104 ∧ HL h1 253 = 1) : CL 186 [.ref 31, .int a1, .int a2, .ref 253] h = some (.ok (.int (nI 0)), sJ h1 253 0 v.toInt64) := by
  rw [e186, ck_of hk, hc]
  exact w_fin k.1 k.2
theorem w186_1 (a1 : Int32) (a2 : Int32) (hk : HK h 31 = 8) (hc : CL 22 [.ref 31, .int a1, .int a2] h = some (.error 1, h1)) : CL 186 [.ref 31, .int a1, .int a2, .ref 253] h = some (.ok (.int (nI 1)), h1) := by
  rw [e186, ck_of hk, hc]
  rfl
theorem w186_4 (a1 : Int32) (a2 : Int32) (hk : HK h 31 = 8) (hc : CL 22 [.ref 31, .int a1, .int a2] h = some (.error 4, h1)) : CL 186 [.ref 31, .int a1, .int a2, .ref 253] h = some (.ok (.int (nI 2)), h1) := by
  rw [e186, ck_of hk, hc]
  rfl
theorem w198_ok (a1 : Int32) (a2 : Int32) {p : Bool} (hk : HK h 31 = 8) (hc : CL 111 [.ref 31, .int a1, .int a2] h = some (.ok (.int (nI (b2n p))), h1)) (k : HK h1 253 = 104 ∧ HL h1 253 = 1) : CL 198 [.ref 31, .int a1, .int a2, .ref 253] h = some (.ok (.int (nI 0)), sJ h1 253 0 (nI (b2n p)).toInt64) := by
  rw [e198, ck_of hk, hc]
  exact w_finb k.1 k.2
theorem w198_1 (a1 : Int32) (a2 : Int32) (hk : HK h 31 = 8) (hc : CL 111 [.ref 31, .int a1, .int a2] h = some (.error 1, h1)) : CL 198 [.ref 31, .int a1, .int a2, .ref 253] h = some (.ok (.int (nI 1)), h1) := by
  rw [e198, ck_of hk, hc]
  rfl
theorem w258_ok (a1 : Int32) (hk : HK h 31 = 8) (hc : CL 152 [.ref 31, .int a1] h = some (.ok (.int v), h1)) (k : HK h1 253 = 104 ∧ HL h1 253 = 1) : CL 258 [.ref 31, .int a1, .ref 253] h = some (.ok (.int (nI 0)), sJ h1 253 0 v.toInt64) := by
  rw [e258, ck_of hk, hc]
  exact w_fin k.1 k.2
theorem w258_1 (a1 : Int32) (hk : HK h 31 = 8) (hc : CL 152 [.ref 31, .int a1] h = some (.error 1, h1)) : CL 258 [.ref 31, .int a1, .ref 253] h = some (.ok (.int (nI 1)), h1) := by
  rw [e258, ck_of hk, hc]
  rfl
theorem w254_ok (a1 : Int32) (hk : HK h 31 = 8) (hc : CL 145 [.ref 31, .int a1] h = some (.ok (.int v), h1)) (k : HK h1 253 = 104 ∧ HL h1 253 = 1) : CL 254 [.ref 31, .int a1, .ref 253] h = some (.ok (.int (nI 0)), sJ h1 253 0 v.toInt64) := by
  rw [e254, ck_of hk, hc]
  exact w_fin k.1 k.2
theorem w254_3 (a1 : Int32) (hk : HK h 31 = 8) (hc : CL 145 [.ref 31, .int a1] h = some (.error 3, h1)) : CL 254 [.ref 31, .int a1, .ref 253] h = some (.ok (.int (nI 1)), h1) := by
  rw [e254, ck_of hk, hc]
  rfl
theorem w252_ok (a1 : Int32) (hk : HK h 31 = 8) (hc : CL 156 [.ref 31, .int a1] h = some (.ok (.int v), h1)) (k : HK h1 253 = 104 ∧ HL h1 253 = 1) : CL 252 [.ref 31, .int a1, .ref 253] h = some (.ok (.int (nI 0)), sJ h1 253 0 v.toInt64) := by
  rw [e252, ck_of hk, hc]
  exact w_fin k.1 k.2
theorem w252_3 (a1 : Int32) (hk : HK h 31 = 8) (hc : CL 156 [.ref 31, .int a1] h = some (.error 3, h1)) : CL 252 [.ref 31, .int a1, .ref 253] h = some (.ok (.int (nI 1)), h1) := by
  rw [e252, ck_of hk, hc]
  rfl
theorem w250_ok (a1 : Int32) (hk : HK h 31 = 8) (hc : CL 158 [.ref 31, .int a1] h = some (.ok (.int v), h1)) (k : HK h1 253 = 104 ∧ HL h1 253 = 1) : CL 250 [.ref 31, .int a1, .ref 253] h = some (.ok (.int (nI 0)), sJ h1 253 0 v.toInt64) := by
  rw [e250, ck_of hk, hc]
  exact w_fin k.1 k.2
theorem w250_3 (a1 : Int32) (hk : HK h 31 = 8) (hc : CL 158 [.ref 31, .int a1] h = some (.error 3, h1)) : CL 250 [.ref 31, .int a1, .ref 253] h = some (.ok (.int (nI 1)), h1) := by
  rw [e250, ck_of hk, hc]
  rfl
theorem w247_ok (a1 : Int32) (hk : HK h 31 = 8) (hc : CL 159 [.ref 31, .int a1] h = some (.ok (.int v), h1)) (k : HK h1 253 = 104 ∧ HL h1 253 = 1) : CL 247 [.ref 31, .int a1, .ref 253] h = some (.ok (.int (nI 0)), sJ h1 253 0 v.toInt64) := by
  rw [e247, ck_of hk, hc]
  exact w_fin k.1 k.2
theorem w247_3 (a1 : Int32) (hk : HK h 31 = 8) (hc : CL 159 [.ref 31, .int a1] h = some (.error 3, h1)) : CL 247 [.ref 31, .int a1, .ref 253] h = some (.ok (.int (nI 1)), h1) := by
  rw [e247, ck_of hk, hc]
  rfl
theorem w241_ok (a1 : Int32) (hk : HK h 31 = 8) (hc : CL 146 [.ref 31, .int a1] h = some (.ok (.int v), h1)) (k : HK h1 253 = 104 ∧ HL h1 253 = 1) : CL 241 [.ref 31, .int a1, .ref 253] h = some (.ok (.int (nI 0)), sJ h1 253 0 v.toInt64) := by
  rw [e241, ck_of hk, hc]
  exact w_fin k.1 k.2
theorem w241_1 (a1 : Int32) (hk : HK h 31 = 8) (hc : CL 146 [.ref 31, .int a1] h = some (.error 1, h1)) : CL 241 [.ref 31, .int a1, .ref 253] h = some (.ok (.int (nI 1)), h1) := by
  rw [e241, ck_of hk, hc]
  rfl
theorem w192_ok (a1 : Int32) (a2 : Int32) (hk : HK h 31 = 8) (hc : CL 66 [.ref 31, .int a1, .int a2] h = some (.ok (.int v), h1)) (k : HK h1 253 = 104 ∧ HL h1 253 = 1) : CL 192 [.ref 31, .int a1, .int a2, .ref 253] h = some (.ok (.int (nI 0)), sJ h1 253 0 v.toInt64) := by
  rw [e192, ck_of hk, hc]
  exact w_fin k.1 k.2
theorem w192_1 (a1 : Int32) (a2 : Int32) (hk : HK h 31 = 8) (hc : CL 66 [.ref 31, .int a1, .int a2] h = some (.error 1, h1)) : CL 192 [.ref 31, .int a1, .int a2, .ref 253] h = some (.ok (.int (nI 1)), h1) := by
  rw [e192, ck_of hk, hc]
  rfl
theorem w192_4 (a1 : Int32) (a2 : Int32) (hk : HK h 31 = 8) (hc : CL 66 [.ref 31, .int a1, .int a2] h = some (.error 4, h1)) : CL 192 [.ref 31, .int a1, .int a2, .ref 253] h = some (.ok (.int (nI 2)), h1) := by
  rw [e192, ck_of hk, hc]
  rfl
theorem w232_ok (a1 : Int32) (a2 : Int32) (hk : HK h 31 = 8) (hc : CL 176 [.ref 31, .int a1, .int a2] h = some (.ok (.int v), h1)) (k : HK h1 253 = 104 ∧ HL h1 253 = 1) : CL 232 [.ref 31, .int a1, .int a2, .ref 253] h = some (.ok (.int (nI 0)), sJ h1 253 0 v.toInt64) := by
  rw [e232, ck_of hk, hc]
  exact w_fin k.1 k.2
theorem w232_1 (a1 : Int32) (a2 : Int32) (hk : HK h 31 = 8) (hc : CL 176 [.ref 31, .int a1, .int a2] h = some (.error 1, h1)) : CL 232 [.ref 31, .int a1, .int a2, .ref 253] h = some (.ok (.int (nI 1)), h1) := by
  rw [e232, ck_of hk, hc]
  rfl
theorem w232_4 (a1 : Int32) (a2 : Int32) (hk : HK h 31 = 8) (hc : CL 176 [.ref 31, .int a1, .int a2] h = some (.error 4, h1)) : CL 232 [.ref 31, .int a1, .int a2, .ref 253] h = some (.ok (.int (nI 2)), h1) := by
  rw [e232, ck_of hk, hc]
  rfl
theorem w232_2 (a1 : Int32) (a2 : Int32) (hk : HK h 31 = 8) (hc : CL 176 [.ref 31, .int a1, .int a2] h = some (.error 2, h1)) : CL 232 [.ref 31, .int a1, .int a2, .ref 253] h = some (.ok (.int (nI 3)), h1) := by
  rw [e232, ck_of hk, hc]
  rfl
theorem w188_ok  (hk : HK h 31 = 8) (hc : CL 55 [.ref 31] h = some (.ok (.int v), h1)) (k : HK h1 253 = 104 ∧ HL h1 253 = 1) : CL 188 [.ref 31, .ref 253] h = some (.ok (.int (nI 0)), sJ h1 253 0 v.toInt64) := by
  rw [e188, ck_of hk, hc]
  exact w_fin k.1 k.2
theorem w188_2  (hk : HK h 31 = 8) (hc : CL 55 [.ref 31] h = some (.error 2, h1)) : CL 188 [.ref 31, .ref 253] h = some (.ok (.int (nI 1)), h1) := by
  rw [e188, ck_of hk, hc]
  rfl
theorem w216_ok (a1 : Int32) (a2 : Int32) (a3 : Int32) (hk : HK h 31 = 8) (hc : CL 184 [.ref 31, .int a1, .int a2, .int a3] h = some (.ok (.int v), h1)) (k : HK h1 253 = 104 ∧ HL h1 253 = 1) : CL 216 [.ref 31, .int a1, .int a2, .int a3, .ref 253] h = some (.ok (.int (nI 0)), sJ h1 253 0 v.toInt64) := by
  rw [e216, ck_of hk, hc]
  exact w_fin k.1 k.2
theorem w216_1 (a1 : Int32) (a2 : Int32) (a3 : Int32) (hk : HK h 31 = 8) (hc : CL 184 [.ref 31, .int a1, .int a2, .int a3] h = some (.error 1, h1)) : CL 216 [.ref 31, .int a1, .int a2, .int a3, .ref 253] h = some (.ok (.int (nI 1)), h1) := by
  rw [e216, ck_of hk, hc]
  rfl
theorem w216_4 (a1 : Int32) (a2 : Int32) (a3 : Int32) (hk : HK h 31 = 8) (hc : CL 184 [.ref 31, .int a1, .int a2, .int a3] h = some (.error 4, h1)) : CL 216 [.ref 31, .int a1, .int a2, .int a3, .ref 253] h = some (.ok (.int (nI 2)), h1) := by
  rw [e216, ck_of hk, hc]
  rfl
theorem w203_ok (a1 : Int32) (a2 : Int32) (a3 : Int32) (hk : HK h 31 = 8) (hc : CL 155 [.ref 31, .int a1, .int a2, .int a3] h = some (.ok (.int v), h1)) (k : HK h1 253 = 104 ∧ HL h1 253 = 1) : CL 203 [.ref 31, .int a1, .int a2, .int a3, .ref 253] h = some (.ok (.int (nI 0)), sJ h1 253 0 v.toInt64) := by
  rw [e203, ck_of hk, hc]
  exact w_fin k.1 k.2
theorem w203_1 (a1 : Int32) (a2 : Int32) (a3 : Int32) (hk : HK h 31 = 8) (hc : CL 155 [.ref 31, .int a1, .int a2, .int a3] h = some (.error 1, h1)) : CL 203 [.ref 31, .int a1, .int a2, .int a3, .ref 253] h = some (.ok (.int (nI 1)), h1) := by
  rw [e203, ck_of hk, hc]
  rfl
theorem w203_2 (a1 : Int32) (a2 : Int32) (a3 : Int32) (hk : HK h 31 = 8) (hc : CL 155 [.ref 31, .int a1, .int a2, .int a3] h = some (.error 2, h1)) : CL 203 [.ref 31, .int a1, .int a2, .int a3, .ref 253] h = some (.ok (.int (nI 2)), h1) := by
  rw [e203, ck_of hk, hc]
  rfl
end WR
