set_option maxRecDepth 100000 in
theorem mk_171 : ∃ n, ri_Mk md_171.1 n := ri_mkb2_ok (n := 0) (ic := 1537) (ii := 115) rfl (by decide +kernel)
set_option maxRecDepth 100000 in
theorem ot_171 : ri_okT ri_md md_171 = true := by decide +kernel
set_option maxRecDepth 100000 in
theorem mk_172 : ∃ n, ri_Mk md_172.1 n := ri_mkb2_ok (n := 0) (ic := 1473) (ii := 115) rfl (by decide +kernel)
set_option maxRecDepth 100000 in
theorem ot_172 : ri_okT ri_md md_172 = true := by decide +kernel
set_option maxRecDepth 100000 in
theorem mk_173 : ∃ n, ri_Mk md_173.1 n := ri_mkb2_ok (n := 0) (ic := 1553) (ii := 115) rfl (by decide +kernel)
set_option maxRecDepth 100000 in
theorem ot_173 : ri_okT ri_md md_173 = true := by decide +kernel
set_option maxRecDepth 100000 in
theorem mk_174 : ∃ n, ri_Mk md_174.1 n := ri_mkb2_ok (n := 1) (ic := 1589) (ii := 115) rfl (by decide +kernel)
set_option maxRecDepth 100000 in
theorem ot_174 : ri_okT ri_md md_174 = true := by decide +kernel
set_option maxRecDepth 100000 in
theorem mk_175 : ∃ n, ri_Mk md_175.1 n := ri_mkb2_ok (n := 1) (ic := 1637) (ii := 115) rfl (by decide +kernel)
set_option maxRecDepth 100000 in
theorem ot_175 : ri_okT ri_md md_175 = true := by decide +kernel
set_option maxRecDepth 100000 in
theorem mk_176 : ∃ n, ri_Mk md_176.1 n := ri_mkb2_ok (n := 1) (ic := 1561) (ii := 115) rfl (by decide +kernel)
set_option maxRecDepth 100000 in
theorem ot_176 : ri_okT ri_md md_176 = true := by decide +kernel
set_option maxRecDepth 100000 in
theorem mk_177 : ∃ n, ri_Mk md_177.1 n := ri_mkb2_ok (n := 1) (ic := 1617) (ii := 115) rfl (by decide +kernel)
set_option maxRecDepth 100000 in
theorem ot_177 : ri_okT ri_md md_177 = true := by decide +kernel
set_option maxRecDepth 100000 in
theorem mk_178 : ∃ n, ri_Mk md_178.1 n := ri_mkb2_ok (n := 1) (ic := 1581) (ii := 115) rfl (by decide +kernel)
set_option maxRecDepth 100000 in
theorem ot_178 : ri_okT ri_md md_178 = true := by decide +kernel
set_option maxRecDepth 100000 in
theorem mk_179 : ∃ n, ri_Mk md_179.1 n := ri_mkb2_ok (n := 1) (ic := 1704) (ii := 115) rfl (by decide +kernel)
set_option maxRecDepth 100000 in
theorem ot_179 : ri_okT ri_md md_179 = true := by decide +kernel
set_option maxRecDepth 100000 in
theorem mk_180 : ∃ n, ri_Mk md_180.1 n := ri_mkb2_ok (n := 1) (ic := 1569) (ii := 115) rfl (by decide +kernel)
set_option maxRecDepth 100000 in
theorem ot_180 : ri_okT ri_md md_180 = true := by decide +kernel
set_option maxRecDepth 100000 in
theorem mk_181 : ∃ n, ri_Mk md_181.1 n := ri_mkb2_ok (n := 0) (ic := 1605) (ii := 115) rfl (by decide +kernel)
set_option maxRecDepth 100000 in
theorem ot_181 : ri_okT ri_md md_181 = true := by decide +kernel
set_option maxRecDepth 100000 in
theorem mk_182 : ∃ n, ri_Mk md_182.1 n := ri_mkb2_ok (n := 0) (ic := 1609) (ii := 115) rfl (by decide +kernel)
set_option maxRecDepth 100000 in
theorem ot_182 : ri_okT ri_md md_182 = true := by decide +kernel
set_option maxRecDepth 100000 in
theorem mk_183 : ∃ n, ri_Mk md_183.1 n := ri_mkb2_ok (n := 1) (ic := 1597) (ii := 115) rfl (by decide +kernel)
set_option maxRecDepth 100000 in
theorem ot_183 : ri_okT ri_md md_183 = true := by decide +kernel
set_option maxRecDepth 100000 in
theorem mk_184 : ∃ n, ri_Mk md_184.1 n := ri_mkb2_ok (n := 1) (ic := 1601) (ii := 115) rfl (by decide +kernel)
set_option maxRecDepth 100000 in
theorem ot_184 : ri_okT ri_md md_184 = true := by decide +kernel
set_option maxRecDepth 100000 in
theorem mk_185 : ∃ n, ri_Mk md_185.1 n := ri_mkb2_ok (n := 2) (ic := 1557) (ii := 115) rfl (by decide +kernel)
set_option maxRecDepth 100000 in
theorem ot_185 : ri_okT ri_md md_185 = true := by decide +kernel
set_option maxRecDepth 100000 in
theorem mk_186 : ∃ n, ri_Mk md_186.1 n := ri_mkb2_ok (n := 2) (ic := 1573) (ii := 115) rfl (by decide +kernel)
set_option maxRecDepth 100000 in
theorem ot_186 : ri_okT ri_md md_186 = true := by decide +kernel
set_option maxRecDepth 100000 in
theorem mk_187 : ∃ n, ri_Mk md_187.1 n := ri_mkb2_ok (n := 2) (ic := 1577) (ii := 115) rfl (by decide +kernel)
set_option maxRecDepth 100000 in
theorem ot_187 : ri_okT ri_md md_187 = true := by decide +kernel
set_option maxRecDepth 100000 in
theorem mk_188 : ∃ n, ri_Mk md_188.1 n := ri_mkb2_ok (n := 1) (ic := 1585) (ii := 115) rfl (by decide +kernel)
set_option maxRecDepth 100000 in
theorem ot_188 : ri_okT ri_md md_188 = true := by decide +kernel
set_option maxRecDepth 100000 in
theorem mk_189 : ∃ n, ri_Mk md_189.1 n := ri_mkb2_ok (n := 1) (ic := 1593) (ii := 115) rfl (by decide +kernel)
set_option maxRecDepth 100000 in
theorem ot_189 : ri_okT ri_md md_189 = true := by decide +kernel
set_option maxRecDepth 100000 in
theorem mk_190 : ∃ n, ri_Mk md_190.1 n := ri_mkb2_ok (n := 2) (ic := 1649) (ii := 115) rfl (by decide +kernel)
set_option maxRecDepth 100000 in
theorem ot_190 : ri_okT ri_md md_190 = true := by decide +kernel
set_option maxRecDepth 100000 in
theorem mk_191 : ∃ n, ri_Mk md_191.1 n := ri_mkb2_ok (n := 2) (ic := 1653) (ii := 115) rfl (by decide +kernel)
set_option maxRecDepth 100000 in
theorem ot_191 : ri_okT ri_md md_191 = true := by decide +kernel
set_option maxRecDepth 100000 in
theorem mk_192 : ∃ n, ri_Mk md_192.1 n := ri_mkb2_ok (n := 2) (ic := 1708) (ii := 115) rfl (by decide +kernel)
set_option maxRecDepth 100000 in
theorem ot_192 : ri_okT ri_md md_192 = true := by decide +kernel
set_option maxRecDepth 100000 in
theorem mk_193 : ∃ n, ri_Mk md_193.1 n := ri_mkb2_ok (n := 2) (ic := 1716) (ii := 115) rfl (by decide +kernel)
set_option maxRecDepth 100000 in
theorem ot_193 : ri_okT ri_md md_193 = true := by decide +kernel
set_option maxRecDepth 100000 in
theorem mk_194 : ∃ n, ri_Mk md_194.1 n := ri_mkb2_ok (n := 1) (ic := 1621) (ii := 115) rfl (by decide +kernel)
set_option maxRecDepth 100000 in
theorem ot_194 : ri_okT ri_md md_194 = true := by decide +kernel
set_option maxRecDepth 100000 in
theorem mk_195 : ∃ n, ri_Mk md_195.1 n := ri_mkb2_ok (n := 2) (ic := 1629) (ii := 115) rfl (by decide +kernel)
set_option maxRecDepth 100000 in
theorem ot_195 : ri_okT ri_md md_195 = true := by decide +kernel
set_option maxRecDepth 100000 in
theorem mk_196 : ∃ n, ri_Mk md_196.1 n := ri_mkb2_ok (n := 0) (ic := 1641) (ii := 115) rfl (by decide +kernel)
set_option maxRecDepth 100000 in
theorem ot_196 : ri_okT ri_md md_196 = true := by decide +kernel
set_option maxRecDepth 100000 in
theorem mk_197 : ∃ n, ri_Mk md_197.1 n := ri_mkb2_ok (n := 1) (ic := 1645) (ii := 115) rfl (by decide +kernel)
set_option maxRecDepth 100000 in
theorem ot_197 : ri_okT ri_md md_197 = true := by decide +kernel
set_option maxRecDepth 100000 in
theorem mk_198 : ∃ n, ri_Mk md_198.1 n := ri_mkb2_ok (n := 2) (ic := 1664) (ii := 115) rfl (by decide +kernel)
set_option maxRecDepth 100000 in
theorem ot_198 : ri_okT ri_md md_198 = true := by decide +kernel
set_option maxRecDepth 100000 in
theorem mk_199 : ∃ n, ri_Mk md_199.1 n := ri_mkb2_ok (n := 2) (ic := 1668) (ii := 115) rfl (by decide +kernel)
set_option maxRecDepth 100000 in
theorem ot_199 : ri_okT ri_md md_199 = true := by decide +kernel
set_option maxRecDepth 100000 in
theorem mk_200 : ∃ n, ri_Mk md_200.1 n := ri_mkb2_ok (n := 1) (ic := 1688) (ii := 115) rfl (by decide +kernel)
set_option maxRecDepth 100000 in
theorem ot_200 : ri_okT ri_md md_200 = true := by decide +kernel
set_option maxRecDepth 100000 in
theorem mk_201 : ∃ n, ri_Mk md_201.1 n := ri_mkb2_ok (n := 1) (ic := 1692) (ii := 115) rfl (by decide +kernel)
set_option maxRecDepth 100000 in
theorem ot_201 : ri_okT ri_md md_201 = true := by decide +kernel
set_option maxRecDepth 100000 in
theorem mk_202 : ∃ n, ri_Mk md_202.1 n := ri_mkb2_ok (n := 1) (ic := 1684) (ii := 115) rfl (by decide +kernel)
set_option maxRecDepth 100000 in
theorem ot_202 : ri_okT ri_md md_202 = true := by decide +kernel
set_option maxRecDepth 100000 in
theorem mk_203 : ∃ n, ri_Mk md_203.1 n := ri_mkb2_ok (n := 0) (ic := 1680) (ii := 115) rfl (by decide +kernel)
set_option maxRecDepth 100000 in
theorem ot_203 : ri_okT ri_md md_203 = true := by decide +kernel
set_option maxRecDepth 100000 in
theorem mk_204 : ∃ n, ri_Mk md_204.1 n := ri_mkb2_ok (n := 1) (ic := 1676) (ii := 115) rfl (by decide +kernel)
set_option maxRecDepth 100000 in
theorem ot_204 : ri_okT ri_md md_204 = true := by decide +kernel
set_option maxRecDepth 100000 in
theorem mk_205 : ∃ n, ri_Mk md_205.1 n := ri_mkb2_ok (n := 2) (ic := 1613) (ii := 115) rfl (by decide +kernel)
set_option maxRecDepth 100000 in
theorem ot_205 : ri_okT ri_md md_205 = true := by decide +kernel
set_option maxRecDepth 100000 in
theorem mk_206 : ∃ n, ri_Mk md_206.1 n := ri_mkb2_ok (n := 1) (ic := 1633) (ii := 115) rfl (by decide +kernel)
set_option maxRecDepth 100000 in
theorem ot_206 : ri_okT ri_md md_206 = true := by decide +kernel
set_option maxRecDepth 100000 in
theorem mk_207 : ∃ n, ri_Mk md_207.1 n := ri_mkb2_ok (n := 2) (ic := 1660) (ii := 115) rfl (by decide +kernel)
set_option maxRecDepth 100000 in
theorem ot_207 : ri_okT ri_md md_207 = true := by decide +kernel
set_option maxRecDepth 100000 in
theorem mk_208 : ∃ n, ri_Mk md_208.1 n := ri_mkb2_ok (n := 1) (ic := 1672) (ii := 115) rfl (by decide +kernel)
set_option maxRecDepth 100000 in
theorem ot_208 : ri_okT ri_md md_208 = true := by decide +kernel
set_option maxRecDepth 100000 in
theorem mk_209 : ∃ n, ri_Mk md_209.1 n := ri_mkb2_ok (n := 0) (ic := 1625) (ii := 115) rfl (by decide +kernel)
set_option maxRecDepth 100000 in
theorem ot_209 : ri_okT ri_md md_209 = true := by decide +kernel
set_option maxRecDepth 100000 in
theorem mk_210 : ∃ n, ri_Mk md_210.1 n := ri_mkb2_ok (n := 0) (ic := 1696) (ii := 115) rfl (by decide +kernel)
set_option maxRecDepth 100000 in
theorem ot_210 : ri_okT ri_md md_210 = true := by decide +kernel
