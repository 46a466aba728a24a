/-! THE METHODS, ONE BY ONE -/
theorem pg_d160 : px_chkL 11 prog_13_method_56_code 0 pg_c160 = true := by decide +kernel
theorem pg_y160 : px_chkY pg_m160 0 (1640, 1639, 125) = true := by decide +kernel
theorem pg_d161 : px_chkL 11 prog_13_method_60_code 0 pg_c161 = true := by decide +kernel
theorem pg_y161 : px_chkY pg_m161 1 (1644, 1643, 42) = true := by decide +kernel
theorem pg_d162 : px_chkL 11 prog_13_method_27_code 0 pg_c162 = true := by decide +kernel
theorem pg_y162 : px_chkY pg_m162 1 (1648, 1647, 43) = true := by decide +kernel
theorem pg_d163 : px_chkL 11 prog_13_method_79_code 0 pg_c163 = true := by decide +kernel
theorem pg_y163 : px_chkY pg_m163 1 (1652, 1651, 44) = true := by decide +kernel
theorem pg_d164 : px_chkL 11 prog_13_method_80_code 0 pg_c164 = true := by decide +kernel
theorem pg_y164 : px_chkY pg_m164 1 (1656, 1655, 45) = true := by decide +kernel
theorem pg_d165 : px_chkL 11 prog_13_method_61_code 0 pg_c165 = true := by decide +kernel
theorem pg_y165 : px_chkY pg_m165 1 (1661, 1660, 46) = true := by decide +kernel
theorem pg_d166 : px_chkL 11 prog_13_method_78_code 0 pg_c166 = true := by decide +kernel
theorem pg_y166 : px_chkY pg_m166 1 (1665, 1664, 47) = true := by decide +kernel
theorem pg_d167 : px_chkL 11 prog_13_method_51_code 0 pg_c167 = true := by decide +kernel
theorem pg_y167 : px_chkY pg_m167 1 (1669, 1668, 48) = true := by decide +kernel
theorem pg_d168 : px_chkL 11 prog_13_method_12_code 0 pg_c168 = true := by decide +kernel
theorem pg_y168 : px_chkY pg_m168 1 (1673, 1672, 49) = true := by decide +kernel
theorem pg_d169 : px_chkL 11 prog_13_method_13_code 0 pg_c169 = true := by decide +kernel
theorem pg_y169 : px_chkY pg_m169 1 (1677, 1676, 50) = true := by decide +kernel
theorem pg_d170 : px_chkL 11 prog_13_method_11_code 0 pg_c170 = true := by decide +kernel
theorem pg_y170 : px_chkY pg_m170 1 (1681, 1680, 51) = true := by decide +kernel
theorem pg_d171 : px_chkL 11 prog_13_method_9_code 0 pg_c171 = true := by decide +kernel
theorem pg_y171 : px_chkY pg_m171 0 (1685, 1684, 125) = true := by decide +kernel
theorem pg_d172 : px_chkL 11 prog_13_method_10_code 0 pg_c172 = true := by decide +kernel
theorem pg_y172 : px_chkY pg_m172 0 (1689, 1688, 125) = true := by decide +kernel
theorem pg_d173 : px_chkL 11 prog_13_method_23_code 0 pg_c173 = true := by decide +kernel
theorem pg_y173 : px_chkY pg_m173 1 (1694, 1693, 52) = true := by decide +kernel
theorem pg_d174 : px_chkL 11 prog_13_method_41_code 0 pg_c174 = true := by decide +kernel
theorem pg_y174 : px_chkY pg_m174 1 (1698, 1697, 53) = true := by decide +kernel
theorem pg_d175 : px_chkL 11 prog_13_method_26_code 0 pg_c175 = true := by decide +kernel
theorem pg_y175 : px_chkY pg_m175 1 (1702, 1701, 54) = true := by decide +kernel
theorem pg_d176 : px_chkL 11 prog_13_method_40_code 0 pg_c176 = true := by decide +kernel
theorem pg_y176 : px_chkY pg_m176 1 (1706, 1705, 55) = true := by decide +kernel
theorem pg_d177 : px_chkL 11 prog_13_method_38_code 0 pg_c177 = true := by decide +kernel
theorem pg_y177 : px_chkY pg_m177 1 (1710, 1709, 56) = true := by decide +kernel
theorem pg_d178 : px_chkL 11 prog_13_method_58_code 0 pg_c178 = true := by decide +kernel
theorem pg_y178 : px_chkY pg_m178 0 (1713, 1712, 125) = true := by decide +kernel
theorem pg_d179 : px_chkL 11 prog_13_method_39_code 0 pg_c179 = true := by decide +kernel
theorem pg_y179 : px_chkY pg_m179 1 (1717, 1716, 57) = true := by decide +kernel
theorem pg_d180 : px_chkL 11 prog_13_method_37_code 0 pg_c180 = true := by decide +kernel
theorem pg_y180 : px_chkY pg_m180 1 (1721, 1720, 58) = true := by decide +kernel
theorem pg_d181 : px_chkL 11 prog_13_method_36_code 0 pg_c181 = true := by decide +kernel
theorem pg_y181 : px_chkY pg_m181 1 (1725, 1724, 59) = true := by decide +kernel
theorem pg_d182 : px_chkL 11 prog_13_method_28_code 0 pg_c182 = true := by decide +kernel
theorem pg_y182 : px_chkY pg_m182 1 (1729, 1728, 60) = true := by decide +kernel
theorem pg_d183 : px_chkL 11 prog_13_method_64_code 0 pg_c183 = true := by decide +kernel
theorem pg_y183 : px_chkY pg_m183 1 (1733, 1732, 61) = true := by decide +kernel
theorem pg_d184 : px_chkL 11 prog_13_method_43_code 0 pg_c184 = true := by decide +kernel
theorem pg_y184 : px_chkY pg_m184 0 (1736, 1735, 125) = true := by decide +kernel
theorem pg_d185 : px_chkL 11 prog_13_method_33_code 0 pg_c185 = true := by decide +kernel
theorem pg_y185 : px_chkY pg_m185 1 (1740, 1739, 62) = true := by decide +kernel
theorem pg_d186 : px_chkL 11 prog_13_method_32_code 0 pg_c186 = true := by decide +kernel
theorem pg_y186 : px_chkY pg_m186 1 (1744, 1743, 63) = true := by decide +kernel
theorem pg_d187 : px_chkL 11 prog_13_method_31_code 0 pg_c187 = true := by decide +kernel
theorem pg_y187 : px_chkY pg_m187 1 (1748, 1747, 64) = true := by decide +kernel
theorem pg_d188 : px_chkL 11 prog_13_method_30_code 0 pg_c188 = true := by decide +kernel
theorem pg_y188 : px_chkY pg_m188 1 (1752, 1751, 65) = true := by decide +kernel
theorem pg_d189 : px_chkL 11 prog_13_method_34_code 0 pg_c189 = true := by decide +kernel
theorem pg_y189 : px_chkY pg_m189 1 (1756, 1755, 66) = true := by decide +kernel
theorem pg_d190 : px_chkL 11 prog_13_method_35_code 0 pg_c190 = true := by decide +kernel
theorem pg_y190 : px_chkY pg_m190 1 (1760, 1759, 67) = true := by decide +kernel
theorem pg_d191 : px_chkL 11 prog_13_method_42_code 0 pg_c191 = true := by decide +kernel
theorem pg_y191 : px_chkY pg_m191 1 (1764, 1763, 68) = true := by decide +kernel
theorem pg_d192 : px_chkL 11 prog_13_method_77_code 0 pg_c192 = true := by decide +kernel
theorem pg_y192 : px_chkY pg_m192 1 (1768, 1767, 69) = true := by decide +kernel
theorem pg_d193 : px_chkL 11 prog_13_method_62_code 0 pg_c193 = true := by decide +kernel
theorem pg_y193 : px_chkY pg_m193 1 (1772, 1771, 70) = true := by decide +kernel
theorem pg_d194 : px_chkL 11 prog_13_method_65_code 0 pg_c194 = true := by decide +kernel
theorem pg_y194 : px_chkY pg_m194 1 (1776, 1775, 71) = true := by decide +kernel
theorem pg_d195 : px_chkL 11 prog_13_method_76_code 0 pg_c195 = true := by decide +kernel
theorem pg_y195 : px_chkY pg_m195 1 (1780, 1779, 72) = true := by decide +kernel
theorem pg_d196 : px_chkL 11 prog_13_method_75_code 0 pg_c196 = true := by decide +kernel
theorem pg_y196 : px_chkY pg_m196 1 (1784, 1783, 73) = true := by decide +kernel
theorem pg_d197 : px_chkL 11 prog_13_method_63_code 0 pg_c197 = true := by decide +kernel
theorem pg_y197 : px_chkY pg_m197 1 (1794, 1793, 74) = true := by decide +kernel
theorem pg_d198 : px_chkL 11 prog_13_method_68_code 0 pg_c198 = true := by decide +kernel
theorem pg_y198 : px_chkY pg_m198 1 (1798, 1797, 75) = true := by decide +kernel
theorem pg_d199 : px_chkL 11 prog_13_method_67_code 0 pg_c199 = true := by decide +kernel
theorem pg_y199 : px_chkY pg_m199 1 (1802, 1801, 76) = true := by decide +kernel
