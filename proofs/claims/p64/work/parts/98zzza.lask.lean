/-! THE LAW: it asks, and tells the throws apart -/
section LAW4
variable {h g : Hp} {v : Int32}
theorem ask0_o (k8 : ckK h 31 8 = true) (x k a : Int32) (hc : CL 22 [.ref 31, .int x, .int k] h = some (.ok (.int v), g)) : CL 190 [.ref 31, .int (0 : Int32), .int x, .int k, .int a] h = some (.ok (.int v), g) := by
  rw [e190, show CL 189 [.ref 31, .int (0 : Int32), .int x, .int k, .int a] h = _ from p189_0 31 x k a h, e189_64, k8, hc]
  rfl
theorem ask0_1 (k8 : ckK h 31 8 = true) (x k a : Int32) (hc : CL 22 [.ref 31, .int x, .int k] h = some (.error 1, g)) : CL 190 [.ref 31, .int (0 : Int32), .int x, .int k, .int a] h = some (.ok (.int (-2003 : Int32)), g) := by
  rw [e190, show CL 189 [.ref 31, .int (0 : Int32), .int x, .int k, .int a] h = _ from p189_0 31 x k a h, e189_64, k8, hc]
  rfl
theorem ask0_3 (k8 : ckK h 31 8 = true) (x k a : Int32) (hc : CL 22 [.ref 31, .int x, .int k] h = some (.error 3, g)) : CL 190 [.ref 31, .int (0 : Int32), .int x, .int k, .int a] h = some (.ok (.int (-2002 : Int32)), g) := by
  rw [e190, show CL 189 [.ref 31, .int (0 : Int32), .int x, .int k, .int a] h = _ from p189_0 31 x k a h, e189_64, k8, hc]
  rfl
theorem ask0_4 (k8 : ckK h 31 8 = true) (x k a : Int32) (hc : CL 22 [.ref 31, .int x, .int k] h = some (.error 4, g)) : CL 190 [.ref 31, .int (0 : Int32), .int x, .int k, .int a] h = some (.ok (.int (-2004 : Int32)), g) := by
  rw [e190, show CL 189 [.ref 31, .int (0 : Int32), .int x, .int k, .int a] h = _ from p189_0 31 x k a h, e189_64, k8, hc]
  rfl
theorem ask1_o (k8 : ckK h 31 8 = true) (x k a : Int32) (hc : CL 129 [.ref 31, .int x, .int k] h = some (.ok (.int v), g)) : CL 190 [.ref 31, .int (1 : Int32), .int x, .int k, .int a] h = some (.ok (.int v), g) := by
  rw [e190, show CL 189 [.ref 31, .int (1 : Int32), .int x, .int k, .int a] h = _ from p189_1 31 x k a h, e189_71, k8, hc]
  rfl
theorem ask1_1 (k8 : ckK h 31 8 = true) (x k a : Int32) (hc : CL 129 [.ref 31, .int x, .int k] h = some (.error 1, g)) : CL 190 [.ref 31, .int (1 : Int32), .int x, .int k, .int a] h = some (.ok (.int (-2003 : Int32)), g) := by
  rw [e190, show CL 189 [.ref 31, .int (1 : Int32), .int x, .int k, .int a] h = _ from p189_1 31 x k a h, e189_71, k8, hc]
  rfl
theorem ask1_3 (k8 : ckK h 31 8 = true) (x k a : Int32) (hc : CL 129 [.ref 31, .int x, .int k] h = some (.error 3, g)) : CL 190 [.ref 31, .int (1 : Int32), .int x, .int k, .int a] h = some (.ok (.int (-2002 : Int32)), g) := by
  rw [e190, show CL 189 [.ref 31, .int (1 : Int32), .int x, .int k, .int a] h = _ from p189_1 31 x k a h, e189_71, k8, hc]
  rfl
theorem ask1_4 (k8 : ckK h 31 8 = true) (x k a : Int32) (hc : CL 129 [.ref 31, .int x, .int k] h = some (.error 4, g)) : CL 190 [.ref 31, .int (1 : Int32), .int x, .int k, .int a] h = some (.ok (.int (-2004 : Int32)), g) := by
  rw [e190, show CL 189 [.ref 31, .int (1 : Int32), .int x, .int k, .int a] h = _ from p189_1 31 x k a h, e189_71, k8, hc]
  rfl
theorem ask2_o (k8 : ckK h 31 8 = true) (x k a : Int32) (hc : CL 142 [.ref 31, .int x] h = some (.ok (.int v), g)) : CL 190 [.ref 31, .int (2 : Int32), .int x, .int k, .int a] h = some (.ok (.int v), g) := by
  rw [e190, show CL 189 [.ref 31, .int (2 : Int32), .int x, .int k, .int a] h = _ from p189_2 31 x k a h, e189_78, k8, hc]
  rfl
theorem ask2_1 (k8 : ckK h 31 8 = true) (x k a : Int32) (hc : CL 142 [.ref 31, .int x] h = some (.error 1, g)) : CL 190 [.ref 31, .int (2 : Int32), .int x, .int k, .int a] h = some (.ok (.int (-2003 : Int32)), g) := by
  rw [e190, show CL 189 [.ref 31, .int (2 : Int32), .int x, .int k, .int a] h = _ from p189_2 31 x k a h, e189_78, k8, hc]
  rfl
theorem ask2_3 (k8 : ckK h 31 8 = true) (x k a : Int32) (hc : CL 142 [.ref 31, .int x] h = some (.error 3, g)) : CL 190 [.ref 31, .int (2 : Int32), .int x, .int k, .int a] h = some (.ok (.int (-2002 : Int32)), g) := by
  rw [e190, show CL 189 [.ref 31, .int (2 : Int32), .int x, .int k, .int a] h = _ from p189_2 31 x k a h, e189_78, k8, hc]
  rfl
theorem ask2_4 (k8 : ckK h 31 8 = true) (x k a : Int32) (hc : CL 142 [.ref 31, .int x] h = some (.error 4, g)) : CL 190 [.ref 31, .int (2 : Int32), .int x, .int k, .int a] h = some (.ok (.int (-2004 : Int32)), g) := by
  rw [e190, show CL 189 [.ref 31, .int (2 : Int32), .int x, .int k, .int a] h = _ from p189_2 31 x k a h, e189_78, k8, hc]
  rfl
theorem ask3_o (k8 : ckK h 31 8 = true) (x k a : Int32) (hc : CL 178 [.ref 31, .int k] h = some (.ok (.int v), g)) : CL 190 [.ref 31, .int (3 : Int32), .int x, .int k, .int a] h = some (.ok (.int v), g) := by
  rw [e190, show CL 189 [.ref 31, .int (3 : Int32), .int x, .int k, .int a] h = _ from p189_3 31 x k a h, e189_84, k8, hc]
  rfl
theorem ask3_1 (k8 : ckK h 31 8 = true) (x k a : Int32) (hc : CL 178 [.ref 31, .int k] h = some (.error 1, g)) : CL 190 [.ref 31, .int (3 : Int32), .int x, .int k, .int a] h = some (.ok (.int (-2003 : Int32)), g) := by
  rw [e190, show CL 189 [.ref 31, .int (3 : Int32), .int x, .int k, .int a] h = _ from p189_3 31 x k a h, e189_84, k8, hc]
  rfl
theorem ask3_3 (k8 : ckK h 31 8 = true) (x k a : Int32) (hc : CL 178 [.ref 31, .int k] h = some (.error 3, g)) : CL 190 [.ref 31, .int (3 : Int32), .int x, .int k, .int a] h = some (.ok (.int (-2002 : Int32)), g) := by
  rw [e190, show CL 189 [.ref 31, .int (3 : Int32), .int x, .int k, .int a] h = _ from p189_3 31 x k a h, e189_84, k8, hc]
  rfl
theorem ask3_4 (k8 : ckK h 31 8 = true) (x k a : Int32) (hc : CL 178 [.ref 31, .int k] h = some (.error 4, g)) : CL 190 [.ref 31, .int (3 : Int32), .int x, .int k, .int a] h = some (.ok (.int (-2004 : Int32)), g) := by
  rw [e190, show CL 189 [.ref 31, .int (3 : Int32), .int x, .int k, .int a] h = _ from p189_3 31 x k a h, e189_84, k8, hc]
  rfl
theorem ask4_o (k8 : ckK h 31 8 = true) (x k a : Int32) (hc : CL 64 [.ref 31, .int k] h = some (.ok (.int v), g)) : CL 190 [.ref 31, .int (4 : Int32), .int x, .int k, .int a] h = some (.ok (.int v), g) := by
  rw [e190, show CL 189 [.ref 31, .int (4 : Int32), .int x, .int k, .int a] h = _ from p189_4 31 x k a h, e189_90, k8, hc]
  rfl
theorem ask4_1 (k8 : ckK h 31 8 = true) (x k a : Int32) (hc : CL 64 [.ref 31, .int k] h = some (.error 1, g)) : CL 190 [.ref 31, .int (4 : Int32), .int x, .int k, .int a] h = some (.ok (.int (-2003 : Int32)), g) := by
  rw [e190, show CL 189 [.ref 31, .int (4 : Int32), .int x, .int k, .int a] h = _ from p189_4 31 x k a h, e189_90, k8, hc]
  rfl
theorem ask4_3 (k8 : ckK h 31 8 = true) (x k a : Int32) (hc : CL 64 [.ref 31, .int k] h = some (.error 3, g)) : CL 190 [.ref 31, .int (4 : Int32), .int x, .int k, .int a] h = some (.ok (.int (-2002 : Int32)), g) := by
  rw [e190, show CL 189 [.ref 31, .int (4 : Int32), .int x, .int k, .int a] h = _ from p189_4 31 x k a h, e189_90, k8, hc]
  rfl
theorem ask4_4 (k8 : ckK h 31 8 = true) (x k a : Int32) (hc : CL 64 [.ref 31, .int k] h = some (.error 4, g)) : CL 190 [.ref 31, .int (4 : Int32), .int x, .int k, .int a] h = some (.ok (.int (-2004 : Int32)), g) := by
  rw [e190, show CL 189 [.ref 31, .int (4 : Int32), .int x, .int k, .int a] h = _ from p189_4 31 x k a h, e189_90, k8, hc]
  rfl
theorem ask5_o (k8 : ckK h 31 8 = true) (x k a : Int32) (hc : CL 16 [.ref 31, .int k] h = some (.ok (.int v), g)) : CL 190 [.ref 31, .int (5 : Int32), .int x, .int k, .int a] h = some (.ok (.int v), g) := by
  rw [e190, show CL 189 [.ref 31, .int (5 : Int32), .int x, .int k, .int a] h = _ from p189_5 31 x k a h, e189_96, k8, hc]
  rfl
theorem ask5_1 (k8 : ckK h 31 8 = true) (x k a : Int32) (hc : CL 16 [.ref 31, .int k] h = some (.error 1, g)) : CL 190 [.ref 31, .int (5 : Int32), .int x, .int k, .int a] h = some (.ok (.int (-2003 : Int32)), g) := by
  rw [e190, show CL 189 [.ref 31, .int (5 : Int32), .int x, .int k, .int a] h = _ from p189_5 31 x k a h, e189_96, k8, hc]
  rfl
theorem ask5_3 (k8 : ckK h 31 8 = true) (x k a : Int32) (hc : CL 16 [.ref 31, .int k] h = some (.error 3, g)) : CL 190 [.ref 31, .int (5 : Int32), .int x, .int k, .int a] h = some (.ok (.int (-2002 : Int32)), g) := by
  rw [e190, show CL 189 [.ref 31, .int (5 : Int32), .int x, .int k, .int a] h = _ from p189_5 31 x k a h, e189_96, k8, hc]
  rfl
theorem ask5_4 (k8 : ckK h 31 8 = true) (x k a : Int32) (hc : CL 16 [.ref 31, .int k] h = some (.error 4, g)) : CL 190 [.ref 31, .int (5 : Int32), .int x, .int k, .int a] h = some (.ok (.int (-2004 : Int32)), g) := by
  rw [e190, show CL 189 [.ref 31, .int (5 : Int32), .int x, .int k, .int a] h = _ from p189_5 31 x k a h, e189_96, k8, hc]
  rfl
theorem ask6_o (k8 : ckK h 31 8 = true) (x k a : Int32) (hc : CL 135 [.ref 31, .int x, .int a] h = some (.ok (.int v), g)) : CL 190 [.ref 31, .int (6 : Int32), .int x, .int k, .int a] h = some (.ok (.int v), g) := by
  rw [e190, show CL 189 [.ref 31, .int (6 : Int32), .int x, .int k, .int a] h = _ from p189_6 31 x k a h, e189_102, k8, hc]
  rfl
theorem ask6_1 (k8 : ckK h 31 8 = true) (x k a : Int32) (hc : CL 135 [.ref 31, .int x, .int a] h = some (.error 1, g)) : CL 190 [.ref 31, .int (6 : Int32), .int x, .int k, .int a] h = some (.ok (.int (-2003 : Int32)), g) := by
  rw [e190, show CL 189 [.ref 31, .int (6 : Int32), .int x, .int k, .int a] h = _ from p189_6 31 x k a h, e189_102, k8, hc]
  rfl
theorem ask6_3 (k8 : ckK h 31 8 = true) (x k a : Int32) (hc : CL 135 [.ref 31, .int x, .int a] h = some (.error 3, g)) : CL 190 [.ref 31, .int (6 : Int32), .int x, .int k, .int a] h = some (.ok (.int (-2002 : Int32)), g) := by
  rw [e190, show CL 189 [.ref 31, .int (6 : Int32), .int x, .int k, .int a] h = _ from p189_6 31 x k a h, e189_102, k8, hc]
  rfl
theorem ask6_4 (k8 : ckK h 31 8 = true) (x k a : Int32) (hc : CL 135 [.ref 31, .int x, .int a] h = some (.error 4, g)) : CL 190 [.ref 31, .int (6 : Int32), .int x, .int k, .int a] h = some (.ok (.int (-2004 : Int32)), g) := by
  rw [e190, show CL 189 [.ref 31, .int (6 : Int32), .int x, .int k, .int a] h = _ from p189_6 31 x k a h, e189_102, k8, hc]
  rfl
theorem ask9_o (k8 : ckK h 31 8 = true) (x k a : Int32) (hc : CL 145 [.ref 31, .int k] h = some (.ok (.int v), g)) : CL 190 [.ref 31, .int (9 : Int32), .int x, .int k, .int a] h = some (.ok (.int v), g) := by
  rw [e190, show CL 189 [.ref 31, .int (9 : Int32), .int x, .int k, .int a] h = _ from p189_9 31 x k a h, e189_129, k8, hc]
  rfl
theorem ask9_1 (k8 : ckK h 31 8 = true) (x k a : Int32) (hc : CL 145 [.ref 31, .int k] h = some (.error 1, g)) : CL 190 [.ref 31, .int (9 : Int32), .int x, .int k, .int a] h = some (.ok (.int (-2003 : Int32)), g) := by
  rw [e190, show CL 189 [.ref 31, .int (9 : Int32), .int x, .int k, .int a] h = _ from p189_9 31 x k a h, e189_129, k8, hc]
  rfl
theorem ask9_3 (k8 : ckK h 31 8 = true) (x k a : Int32) (hc : CL 145 [.ref 31, .int k] h = some (.error 3, g)) : CL 190 [.ref 31, .int (9 : Int32), .int x, .int k, .int a] h = some (.ok (.int (-2002 : Int32)), g) := by
  rw [e190, show CL 189 [.ref 31, .int (9 : Int32), .int x, .int k, .int a] h = _ from p189_9 31 x k a h, e189_129, k8, hc]
  rfl
theorem ask9_4 (k8 : ckK h 31 8 = true) (x k a : Int32) (hc : CL 145 [.ref 31, .int k] h = some (.error 4, g)) : CL 190 [.ref 31, .int (9 : Int32), .int x, .int k, .int a] h = some (.ok (.int (-2004 : Int32)), g) := by
  rw [e190, show CL 189 [.ref 31, .int (9 : Int32), .int x, .int k, .int a] h = _ from p189_9 31 x k a h, e189_129, k8, hc]
  rfl
theorem ask12_o (k8 : ckK h 31 8 = true) (x k a : Int32) (hc : CL 149 [.ref 31, .int x, .int a] h = some (.ok (.int v), g)) : CL 190 [.ref 31, .int (12 : Int32), .int x, .int k, .int a] h = some (.ok (.int v), g) := by
  rw [e190, show CL 189 [.ref 31, .int (12 : Int32), .int x, .int k, .int a] h = _ from p189_12 31 x k a h, e189_145, k8, hc]
  rfl
theorem ask12_1 (k8 : ckK h 31 8 = true) (x k a : Int32) (hc : CL 149 [.ref 31, .int x, .int a] h = some (.error 1, g)) : CL 190 [.ref 31, .int (12 : Int32), .int x, .int k, .int a] h = some (.ok (.int (-2003 : Int32)), g) := by
  rw [e190, show CL 189 [.ref 31, .int (12 : Int32), .int x, .int k, .int a] h = _ from p189_12 31 x k a h, e189_145, k8, hc]
  rfl
theorem ask12_3 (k8 : ckK h 31 8 = true) (x k a : Int32) (hc : CL 149 [.ref 31, .int x, .int a] h = some (.error 3, g)) : CL 190 [.ref 31, .int (12 : Int32), .int x, .int k, .int a] h = some (.ok (.int (-2002 : Int32)), g) := by
  rw [e190, show CL 189 [.ref 31, .int (12 : Int32), .int x, .int k, .int a] h = _ from p189_12 31 x k a h, e189_145, k8, hc]
  rfl
theorem ask12_4 (k8 : ckK h 31 8 = true) (x k a : Int32) (hc : CL 149 [.ref 31, .int x, .int a] h = some (.error 4, g)) : CL 190 [.ref 31, .int (12 : Int32), .int x, .int k, .int a] h = some (.ok (.int (-2004 : Int32)), g) := by
  rw [e190, show CL 189 [.ref 31, .int (12 : Int32), .int x, .int k, .int a] h = _ from p189_12 31 x k a h, e189_145, k8, hc]
  rfl
end LAW4
