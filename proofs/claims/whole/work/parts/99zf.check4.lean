/-! SOUNDNESS, 4: the check of the law, in pieces -/
theorem ck_law_0 : ckL (sMdG 307) (fun j => px_L_law_.getD j 0) 0 ((C_L_law_.drop 0).take 60) ((ax_L_law_.drop 0).take 60) = true := by decide +kernel
theorem ck_law_60 : ckL (sMdG 307) (fun j => px_L_law_.getD j 0) 60 ((C_L_law_.drop 60).take 60) ((ax_L_law_.drop 60).take 60) = true := by decide +kernel
theorem ck_law_120 : ckL (sMdG 307) (fun j => px_L_law_.getD j 0) 120 ((C_L_law_.drop 120).take 60) ((ax_L_law_.drop 120).take 60) = true := by decide +kernel
theorem ck_law_180 : ckL (sMdG 307) (fun j => px_L_law_.getD j 0) 180 ((C_L_law_.drop 180).take 60) ((ax_L_law_.drop 180).take 60) = true := by decide +kernel
theorem ck_law_240 : ckL (sMdG 307) (fun j => px_L_law_.getD j 0) 240 ((C_L_law_.drop 240).take 60) ((ax_L_law_.drop 240).take 60) = true := by decide +kernel
theorem ck_law_300 : ckL (sMdG 307) (fun j => px_L_law_.getD j 0) 300 ((C_L_law_.drop 300).take 60) ((ax_L_law_.drop 300).take 60) = true := by decide +kernel
theorem ck_law_360 : ckL (sMdG 307) (fun j => px_L_law_.getD j 0) 360 ((C_L_law_.drop 360).take 60) ((ax_L_law_.drop 360).take 60) = true := by decide +kernel
theorem ck_law_420 : ckL (sMdG 307) (fun j => px_L_law_.getD j 0) 420 ((C_L_law_.drop 420).take 60) ((ax_L_law_.drop 420).take 60) = true := by decide +kernel
theorem ck_law_480 : ckL (sMdG 307) (fun j => px_L_law_.getD j 0) 480 ((C_L_law_.drop 480).take 60) ((ax_L_law_.drop 480).take 60) = true := by decide +kernel
theorem ck_law_540 : ckL (sMdG 307) (fun j => px_L_law_.getD j 0) 540 ((C_L_law_.drop 540).take 60) ((ax_L_law_.drop 540).take 60) = true := by decide +kernel
theorem ck_law_600 : ckL (sMdG 307) (fun j => px_L_law_.getD j 0) 600 ((C_L_law_.drop 600).take 60) ((ax_L_law_.drop 600).take 60) = true := by decide +kernel
theorem ck_law_660 : ckL (sMdG 307) (fun j => px_L_law_.getD j 0) 660 ((C_L_law_.drop 660).take 60) ((ax_L_law_.drop 660).take 60) = true := by decide +kernel
theorem ck_law_720 : ckL (sMdG 307) (fun j => px_L_law_.getD j 0) 720 ((C_L_law_.drop 720).take 60) ((ax_L_law_.drop 720).take 60) = true := by decide +kernel
