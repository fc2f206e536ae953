/-! the two constructors, run in the kernel -/
set_option maxRecDepth 100000 in
theorem ct_w0 : ip_rF ip_x0 0 .null 1500 0 0 (ip_ent [.ref 0] (ip_mL 0)) [] [ip_d7] = some (none, ip_h1) := by decide +kernel
set_option maxRecDepth 100000 in
theorem ct_w1 : ip_rF ip_x0 0 (.ref 4000000) 1500 0 0 (ip_ent [.ref 0] (ip_mL 0)) [] [ip_d7] = some (none, ip_h1) := by decide +kernel
set_option maxRecDepth 100000 in
theorem ct_pm : ip_ps 122 219 0 (ip_ent [.ref 92] (ip_mL 122)) [] (ip_h1 ++ [ip_d8]) = some (327, [.ref 92], [.int (nI 2), .int (nI 2), .int (nI 4), .int (nI 4), .ref 92], ip_mk sg1) := by decide +kernel
