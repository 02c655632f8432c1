set_option maxRecDepth 100000 in
theorem ck_302_0 : chkL 302 code ko_302 wl_16 0 kc_302_0 = true := by decide +kernel
set_option maxRecDepth 100000 in
theorem ck_302_1 : chkL 302 code ko_302 wl_16 150 kc_302_1 = true := by decide +kernel
set_option maxRecDepth 100000 in
theorem ck_302_2 : chkL 302 code ko_302 wl_16 300 kc_302_2 = true := by decide +kernel
set_option maxRecDepth 100000 in
theorem ck_302_3 : chkL 302 code ko_302 wl_16 450 kc_302_3 = true := by decide +kernel
set_option maxRecDepth 100000 in
theorem ck_302_4 : chkL 302 code ko_302 wl_16 600 kc_302_4 = true := by decide +kernel
set_option maxRecDepth 100000 in
theorem ck_302_5 : chkL 302 code ko_302 wl_16 750 kc_302_5 = true := by decide +kernel
set_option maxRecDepth 100000 in
theorem ck_302_6 : chkL 302 code ko_302 wl_16 900 kc_302_6 = true := by decide +kernel
set_option maxRecDepth 100000 in
theorem ck_302_7 : chkL 302 code ko_302 wl_16 1050 kc_302_7 = true := by decide +kernel
set_option maxRecDepth 100000 in
theorem ck_302 : chkM 302 = true := (show chkL 302 code ko_302 wl_16 0 kc_302 = true from chkL_app _ _ _ _ _ _ _ ck_302_0 (chkL_app _ _ _ _ _ _ _ ck_302_1 (chkL_app _ _ _ _ _ _ _ ck_302_2 (chkL_app _ _ _ _ _ _ _ ck_302_3 (chkL_app _ _ _ _ _ _ _ ck_302_4 (chkL_app _ _ _ _ _ _ _ ck_302_5 (chkL_app _ _ _ _ _ _ _ ck_302_6 (ck_302_7))))))))
