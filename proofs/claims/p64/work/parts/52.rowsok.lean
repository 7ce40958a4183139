/-! EVERY ROW CHECKED -/
theorem code_ok0 : ([0, 1, 2, 3, 4, 5, 6, 7, 8, 9, 10, 11] : List Nat).all (fun y => (ct y).all (fun b => b.all (chkRow y))) = true := by decide +kernel
theorem code_ok1 : ([12, 13, 14, 15, 16, 17, 18, 19, 20, 21, 22, 23] : List Nat).all (fun y => (ct y).all (fun b => b.all (chkRow y))) = true := by decide +kernel
theorem code_ok2 : ([24, 25, 26, 27, 28, 29, 30, 31, 32, 33, 34, 35] : List Nat).all (fun y => (ct y).all (fun b => b.all (chkRow y))) = true := by decide +kernel
theorem code_ok3 : ([36, 37, 38, 39, 40, 41, 42, 43, 44, 45, 46, 47] : List Nat).all (fun y => (ct y).all (fun b => b.all (chkRow y))) = true := by decide +kernel
theorem code_ok4 : ([48, 49, 50, 51, 52, 53, 54, 55, 56, 57, 58, 59] : List Nat).all (fun y => (ct y).all (fun b => b.all (chkRow y))) = true := by decide +kernel
theorem code_ok5 : ([60, 61, 62, 63, 64, 65, 66, 67, 68, 69, 70, 71] : List Nat).all (fun y => (ct y).all (fun b => b.all (chkRow y))) = true := by decide +kernel
theorem code_ok6 : ([72, 73, 74, 75, 76, 77, 78, 79, 80, 81, 82, 83] : List Nat).all (fun y => (ct y).all (fun b => b.all (chkRow y))) = true := by decide +kernel
theorem code_ok7 : ([84, 85, 86, 87, 88, 89, 90, 91, 92, 93, 94, 95] : List Nat).all (fun y => (ct y).all (fun b => b.all (chkRow y))) = true := by decide +kernel
theorem code_ok8 : ([96, 97, 98, 99, 100, 101, 102, 103, 104, 105, 106, 107] : List Nat).all (fun y => (ct y).all (fun b => b.all (chkRow y))) = true := by decide +kernel
theorem code_ok9 : ([108, 109, 110, 111, 112, 113, 114, 115, 116, 117, 118, 119] : List Nat).all (fun y => (ct y).all (fun b => b.all (chkRow y))) = true := by decide +kernel
theorem code_ok10 : ([120, 121, 122, 123, 124, 125, 126, 127, 128, 129, 130, 131] : List Nat).all (fun y => (ct y).all (fun b => b.all (chkRow y))) = true := by decide +kernel
theorem code_ok11 : ([132, 133, 134, 135, 136, 137, 138, 139, 140, 141, 142, 143] : List Nat).all (fun y => (ct y).all (fun b => b.all (chkRow y))) = true := by decide +kernel
theorem code_ok12 : ([144, 145, 146, 147, 148, 149, 150, 151, 152, 153, 154, 155] : List Nat).all (fun y => (ct y).all (fun b => b.all (chkRow y))) = true := by decide +kernel
theorem code_ok13 : ([156, 157, 158, 159, 160, 161, 162, 163, 164, 165, 166, 167] : List Nat).all (fun y => (ct y).all (fun b => b.all (chkRow y))) = true := by decide +kernel
theorem code_ok14 : ([168, 169, 170, 171, 172, 173, 174, 175, 176, 177, 178, 179] : List Nat).all (fun y => (ct y).all (fun b => b.all (chkRow y))) = true := by decide +kernel
theorem code_ok15 : ([180, 181, 182, 183, 184, 185, 186, 187, 188, 189, 190, 191] : List Nat).all (fun y => (ct y).all (fun b => b.all (chkRow y))) = true := by decide +kernel
theorem code_ok16 : ([192, 193, 194, 195, 196, 197, 198, 199, 200, 201, 202, 203] : List Nat).all (fun y => (ct y).all (fun b => b.all (chkRow y))) = true := by decide +kernel
theorem code_ok17 : ([204, 205, 206, 207, 208, 209, 210, 211, 212, 213, 214, 215] : List Nat).all (fun y => (ct y).all (fun b => b.all (chkRow y))) = true := by decide +kernel
theorem code_ok18 : ([216, 217, 218, 219, 220, 221, 222, 223, 224, 225, 226, 227] : List Nat).all (fun y => (ct y).all (fun b => b.all (chkRow y))) = true := by decide +kernel
theorem code_ok19 : ([228, 229, 230, 231, 232, 233, 234, 235, 236, 237, 238, 239] : List Nat).all (fun y => (ct y).all (fun b => b.all (chkRow y))) = true := by decide +kernel
theorem code_ok20 : ([240, 241, 242, 243, 244, 245, 246, 247, 248, 249, 250, 251] : List Nat).all (fun y => (ct y).all (fun b => b.all (chkRow y))) = true := by decide +kernel
theorem code_ok21 : ([252, 253, 254, 255, 256, 257, 258, 259, 260, 261, 262, 263] : List Nat).all (fun y => (ct y).all (fun b => b.all (chkRow y))) = true := by decide +kernel
theorem code_ok22 : ([264, 265, 266, 267, 268, 269, 270, 271, 272, 273, 274, 275] : List Nat).all (fun y => (ct y).all (fun b => b.all (chkRow y))) = true := by decide +kernel
theorem code_ok23 : ([276, 277, 278, 279, 280, 281, 282, 283, 284, 285, 286, 287] : List Nat).all (fun y => (ct y).all (fun b => b.all (chkRow y))) = true := by decide +kernel
theorem code_ok24 : ([288, 289, 290, 291, 292, 293, 294, 295, 296, 297, 298, 299] : List Nat).all (fun y => (ct y).all (fun b => b.all (chkRow y))) = true := by decide +kernel
theorem code_ok25 : ([300, 301, 302, 303, 304, 305, 306, 307, 308, 309, 310, 311] : List Nat).all (fun y => (ct y).all (fun b => b.all (chkRow y))) = true := by decide +kernel
theorem code_ok26 : ([312, 313, 314, 315, 316, 317, 318, 319, 320, 321, 322, 323] : List Nat).all (fun y => (ct y).all (fun b => b.all (chkRow y))) = true := by decide +kernel
theorem code_ok27 : ([324, 325, 326, 327, 328, 329, 330, 331, 332, 333, 334, 335] : List Nat).all (fun y => (ct y).all (fun b => b.all (chkRow y))) = true := by decide +kernel
theorem code_ok28 : ([336, 337, 338, 339, 340, 341, 342] : List Nat).all (fun y => (ct y).all (fun b => b.all (chkRow y))) = true := by decide +kernel
theorem code_okL : (ct 343).all (fun b => b.all (chkRow 343)) = true := by decide +kernel
