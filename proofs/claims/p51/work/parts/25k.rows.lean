section RW10
variable {X : XT} {L9 : Nat} {xs : Nat → Int32}
theorem d_W_law_1662 : decode mi_W_law.2.1 1662 = .ok (.if_icmp .ge (75), 3) := by decide +kernel
theorem d_W_law_1665 : decode mi_W_law.2.1 1665 = .ok (.aload 32, 2) := by decide +kernel
theorem d_W_law_1667 : decode mi_W_law.2.1 1667 = .ok (.iload 33, 2) := by decide +kernel
theorem d_W_law_1669 : decode mi_W_law.2.1 1669 = .ok (.iconst (1), 1) := by decide +kernel
theorem d_W_law_1670 : decode mi_W_law.2.1 1670 = .ok (.bastore, 1) := by decide +kernel
theorem d_W_law_1671 : decode mi_W_law.2.1 1671 = .ok (.iconst (0), 1) := by decide +kernel
theorem d_W_law_1672 : decode mi_W_law.2.1 1672 = .ok (.istore 34, 2) := by decide +kernel
theorem d_W_law_1674 : decode mi_W_law.2.1 1674 = .ok (.iload 34, 2) := by decide +kernel
theorem d_W_law_1676 : decode mi_W_law.2.1 1676 = .ok (.iconst (1), 1) := by decide +kernel
theorem d_W_law_1677 : decode mi_W_law.2.1 1677 = .ok (.iload_n 3, 1) := by decide +kernel
theorem d_W_law_1678 : decode mi_W_law.2.1 1678 = .ok (.ishl, 1) := by decide +kernel
theorem d_W_law_1679 : decode mi_W_law.2.1 1679 = .ok (.if_icmp .ge (52), 3) := by decide +kernel
theorem d_W_law_1682 : decode mi_W_law.2.1 1682 = .ok (.aload 32, 2) := by decide +kernel
theorem d_W_law_1684 : decode mi_W_law.2.1 1684 = .ok (.iload 33, 2) := by decide +kernel
theorem d_W_law_1686 : decode mi_W_law.2.1 1686 = .ok (.dup2, 1) := by decide +kernel
theorem d_W_law_1687 : decode mi_W_law.2.1 1687 = .ok (.baload, 1) := by decide +kernel
theorem d_W_law_1688 : decode mi_W_law.2.1 1688 = .ok (.aload 15, 2) := by decide +kernel
theorem d_W_law_1690 : decode mi_W_law.2.1 1690 = .ok (.iload 33, 2) := by decide +kernel
theorem d_W_law_1692 : decode mi_W_law.2.1 1692 = .ok (.iload_n 3, 1) := by decide +kernel
theorem d_W_law_1693 : decode mi_W_law.2.1 1693 = .ok (.ishl, 1) := by decide +kernel
theorem d_W_law_1694 : decode mi_W_law.2.1 1694 = .ok (.iload 34, 2) := by decide +kernel
theorem d_W_law_1696 : decode mi_W_law.2.1 1696 = .ok (.ior, 1) := by decide +kernel
theorem d_W_law_1697 : decode mi_W_law.2.1 1697 = .ok (.baload, 1) := by decide +kernel
theorem d_W_law_1698 : decode mi_W_law.2.1 1698 = .ok (.ifCond .eq (20), 3) := by decide +kernel
theorem d_W_law_1701 : decode mi_W_law.2.1 1701 = .ok (.aload 12, 2) := by decide +kernel
theorem d_W_law_1703 : decode mi_W_law.2.1 1703 = .ok (.iload 33, 2) := by decide +kernel
theorem d_W_law_1705 : decode mi_W_law.2.1 1705 = .ok (.iload_n 3, 1) := by decide +kernel
theorem d_W_law_1706 : decode mi_W_law.2.1 1706 = .ok (.ishl, 1) := by decide +kernel
theorem d_W_law_1707 : decode mi_W_law.2.1 1707 = .ok (.iload 34, 2) := by decide +kernel
theorem d_W_law_1709 : decode mi_W_law.2.1 1709 = .ok (.ior, 1) := by decide +kernel
theorem d_W_law_1710 : decode mi_W_law.2.1 1710 = .ok (.aaload, 1) := by decide +kernel
theorem d_W_law_1711 : decode mi_W_law.2.1 1711 = .ok (.iload 31, 2) := by decide +kernel
theorem d_W_law_1713 : decode mi_W_law.2.1 1713 = .ok (.iaload, 1) := by decide +kernel
theorem d_W_law_1714 : decode mi_W_law.2.1 1714 = .ok (.iconst (1), 1) := by decide +kernel
theorem d_W_law_1715 : decode mi_W_law.2.1 1715 = .ok (.if_icmp .ne (7), 3) := by decide +kernel
theorem d_W_law_1718 : decode mi_W_law.2.1 1718 = .ok (.iconst (1), 1) := by decide +kernel
theorem d_W_law_1719 : decode mi_W_law.2.1 1719 = .ok (.goto (4), 3) := by decide +kernel
theorem d_W_law_1722 : decode mi_W_law.2.1 1722 = .ok (.iconst (0), 1) := by decide +kernel
theorem d_W_law_1723 : decode mi_W_law.2.1 1723 = .ok (.iand, 1) := by decide +kernel
theorem d_W_law_1724 : decode mi_W_law.2.1 1724 = .ok (.bastore, 1) := by decide +kernel
theorem d_W_law_1725 : decode mi_W_law.2.1 1725 = .ok (.iinc 34 (1), 3) := by decide +kernel
theorem d_W_law_1728 : decode mi_W_law.2.1 1728 = .ok (.goto (-54), 3) := by decide +kernel
theorem d_W_law_1731 : decode mi_W_law.2.1 1731 = .ok (.iinc 33 (1), 3) := by decide +kernel
theorem d_W_law_1734 : decode mi_W_law.2.1 1734 = .ok (.goto (-76), 3) := by decide +kernel
theorem d_W_law_1737 : decode mi_W_law.2.1 1737 = .ok (.aload 32, 2) := by decide +kernel
theorem d_W_law_1739 : decode mi_W_law.2.1 1739 = .ok (.iload 19, 2) := by decide +kernel
theorem d_W_law_1741 : decode mi_W_law.2.1 1741 = .ok (.baload, 1) := by decide +kernel
theorem d_W_law_1742 : decode mi_W_law.2.1 1742 = .ok (.istore 33, 2) := by decide +kernel
theorem d_W_law_1744 : decode mi_W_law.2.1 1744 = .ok (.iconst (0), 1) := by decide +kernel
theorem d_W_law_1745 : decode mi_W_law.2.1 1745 = .ok (.istore 34, 2) := by decide +kernel
theorem d_W_law_1747 : decode mi_W_law.2.1 1747 = .ok (.iload 34, 2) := by decide +kernel
theorem d_W_law_1749 : decode mi_W_law.2.1 1749 = .ok (.iload 9, 2) := by decide +kernel
theorem d_W_law_1751 : decode mi_W_law.2.1 1751 = .ok (.if_icmp .ge (49), 3) := by decide +kernel
theorem d_W_law_1754 : decode mi_W_law.2.1 1754 = .ok (.iload 33, 2) := by decide +kernel
theorem d_W_law_1756 : decode mi_W_law.2.1 1756 = .ok (.aload 15, 2) := by decide +kernel
theorem d_W_law_1758 : decode mi_W_law.2.1 1758 = .ok (.iload 34, 2) := by decide +kernel
theorem d_W_law_1760 : decode mi_W_law.2.1 1760 = .ok (.baload, 1) := by decide +kernel
theorem d_W_law_1761 : decode mi_W_law.2.1 1761 = .ok (.ifCond .eq (25), 3) := by decide +kernel
theorem d_W_law_1764 : decode mi_W_law.2.1 1764 = .ok (.aload 12, 2) := by decide +kernel
theorem d_W_law_1766 : decode mi_W_law.2.1 1766 = .ok (.iload 34, 2) := by decide +kernel
theorem d_W_law_1768 : decode mi_W_law.2.1 1768 = .ok (.aaload, 1) := by decide +kernel
theorem d_W_law_1769 : decode mi_W_law.2.1 1769 = .ok (.iload 31, 2) := by decide +kernel
theorem d_W_law_1771 : decode mi_W_law.2.1 1771 = .ok (.iaload, 1) := by decide +kernel
theorem d_W_law_1772 : decode mi_W_law.2.1 1772 = .ok (.ifCond .eq (14), 3) := by decide +kernel
theorem d_W_law_1775 : decode mi_W_law.2.1 1775 = .ok (.aload 32, 2) := by decide +kernel
theorem d_W_law_1777 : decode mi_W_law.2.1 1777 = .ok (.aload 17, 2) := by decide +kernel
theorem d_W_law_1779 : decode mi_W_law.2.1 1779 = .ok (.iload 34, 2) := by decide +kernel
theorem d_W_law_1781 : decode mi_W_law.2.1 1781 = .ok (.iaload, 1) := by decide +kernel
theorem d_W_law_1782 : decode mi_W_law.2.1 1782 = .ok (.baload, 1) := by decide +kernel
theorem d_W_law_1783 : decode mi_W_law.2.1 1783 = .ok (.ifCond .eq (7), 3) := by decide +kernel
theorem d_W_law_1786 : decode mi_W_law.2.1 1786 = .ok (.iconst (1), 1) := by decide +kernel
theorem d_W_law_1787 : decode mi_W_law.2.1 1787 = .ok (.goto (4), 3) := by decide +kernel
theorem d_W_law_1790 : decode mi_W_law.2.1 1790 = .ok (.iconst (0), 1) := by decide +kernel
theorem d_W_law_1791 : decode mi_W_law.2.1 1791 = .ok (.iand, 1) := by decide +kernel
theorem d_W_law_1792 : decode mi_W_law.2.1 1792 = .ok (.istore 33, 2) := by decide +kernel
theorem d_W_law_1794 : decode mi_W_law.2.1 1794 = .ok (.iinc 34 (1), 3) := by decide +kernel
theorem d_W_law_1797 : decode mi_W_law.2.1 1797 = .ok (.goto (-50), 3) := by decide +kernel
theorem d_W_law_1800 : decode mi_W_law.2.1 1800 = .ok (.iload_n 2, 1) := by decide +kernel
theorem d_W_law_1801 : decode mi_W_law.2.1 1801 = .ok (.aload_n 1, 1) := by decide +kernel
theorem d_W_law_1802 : decode mi_W_law.2.1 1802 = .ok (.iload 31, 2) := by decide +kernel
theorem d_W_law_1804 : decode mi_W_law.2.1 1804 = .ok (.invokestatic 194, 3) := by decide +kernel
theorem d_W_law_1807 : decode mi_W_law.2.1 1807 = .ok (.iload 33, 2) := by decide +kernel
theorem d_W_law_1809 : decode mi_W_law.2.1 1809 = .ok (.ifCond .eq (7), 3) := by decide +kernel
theorem d_W_law_1812 : decode mi_W_law.2.1 1812 = .ok (.iconst (1), 1) := by decide +kernel
theorem d_W_law_1813 : decode mi_W_law.2.1 1813 = .ok (.goto (4), 3) := by decide +kernel
theorem d_W_law_1816 : decode mi_W_law.2.1 1816 = .ok (.iconst (0), 1) := by decide +kernel
theorem d_W_law_1817 : decode mi_W_law.2.1 1817 = .ok (.if_icmp .ne (7), 3) := by decide +kernel
theorem d_W_law_1820 : decode mi_W_law.2.1 1820 = .ok (.iconst (1), 1) := by decide +kernel
theorem d_W_law_1821 : decode mi_W_law.2.1 1821 = .ok (.goto (4), 3) := by decide +kernel
theorem d_W_law_1824 : decode mi_W_law.2.1 1824 = .ok (.iconst (0), 1) := by decide +kernel
theorem d_W_law_1825 : decode mi_W_law.2.1 1825 = .ok (.iand, 1) := by decide +kernel
theorem d_W_law_1826 : decode mi_W_law.2.1 1826 = .ok (.istore_n 2, 1) := by decide +kernel
theorem d_W_law_1827 : decode mi_W_law.2.1 1827 = .ok (.iinc 30 (1), 3) := by decide +kernel
theorem d_W_law_1830 : decode mi_W_law.2.1 1830 = .ok (.goto (-202), 3) := by decide +kernel
theorem d_W_law_1833 : decode mi_W_law.2.1 1833 = .ok (.aload_n 0, 1) := by decide +kernel
theorem d_W_law_1834 : decode mi_W_law.2.1 1834 = .ok (.sipush (390), 3) := by decide +kernel
theorem d_W_law_1837 : decode mi_W_law.2.1 1837 = .ok (.bipush (6), 2) := by decide +kernel
theorem d_W_law_1839 : decode mi_W_law.2.1 1839 = .ok (.invokestatic 104, 3) := by decide +kernel
theorem d_W_law_1842 : decode mi_W_law.2.1 1842 = .ok (.istore 30, 2) := by decide +kernel
theorem d_W_law_1844 : decode mi_W_law.2.1 1844 = .ok (.aload_n 0, 1) := by decide +kernel
theorem d_W_law_1845 : decode mi_W_law.2.1 1845 = .ok (.sipush (391), 3) := by decide +kernel
theorem d_W_law_1848 : decode mi_W_law.2.1 1848 = .ok (.iconst (1), 1) := by decide +kernel
theorem d_W_law_1849 : decode mi_W_law.2.1 1849 = .ok (.iload_n 3, 1) := by decide +kernel
theorem d_W_law_1850 : decode mi_W_law.2.1 1850 = .ok (.ishl, 1) := by decide +kernel
theorem d_W_law_1851 : decode mi_W_law.2.1 1851 = .ok (.invokestatic 104, 3) := by decide +kernel
theorem d_W_law_1854 : decode mi_W_law.2.1 1854 = .ok (.istore 31, 2) := by decide +kernel
theorem d_W_law_1856 : decode mi_W_law.2.1 1856 = .ok (.iload 19, 2) := by decide +kernel
theorem d_W_law_1858 : decode mi_W_law.2.1 1858 = .ok (.istore 32, 2) := by decide +kernel
theorem d_W_law_1860 : decode mi_W_law.2.1 1860 = .ok (.iconst (0), 1) := by decide +kernel
theorem d_W_law_1861 : decode mi_W_law.2.1 1861 = .ok (.istore 33, 2) := by decide +kernel
theorem d_W_law_1863 : decode mi_W_law.2.1 1863 = .ok (.iload 33, 2) := by decide +kernel
theorem d_W_law_1865 : decode mi_W_law.2.1 1865 = .ok (.iload 30, 2) := by decide +kernel
theorem d_W_law_1867 : decode mi_W_law.2.1 1867 = .ok (.if_icmp .ge (21), 3) := by decide +kernel
theorem d_W_law_1870 : decode mi_W_law.2.1 1870 = .ok (.aload 17, 2) := by decide +kernel
theorem d_W_law_1872 : decode mi_W_law.2.1 1872 = .ok (.iload 32, 2) := by decide +kernel
theorem d_W_law_1874 : decode mi_W_law.2.1 1874 = .ok (.iload_n 3, 1) := by decide +kernel
theorem d_W_law_1875 : decode mi_W_law.2.1 1875 = .ok (.ishl, 1) := by decide +kernel
theorem d_W_law_1876 : decode mi_W_law.2.1 1876 = .ok (.iload 31, 2) := by decide +kernel
theorem d_W_law_1878 : decode mi_W_law.2.1 1878 = .ok (.ior, 1) := by decide +kernel
theorem d_W_law_1879 : decode mi_W_law.2.1 1879 = .ok (.iaload, 1) := by decide +kernel
theorem d_W_law_1880 : decode mi_W_law.2.1 1880 = .ok (.istore 32, 2) := by decide +kernel
theorem d_W_law_1882 : decode mi_W_law.2.1 1882 = .ok (.iinc 33 (1), 3) := by decide +kernel
theorem d_W_law_1885 : decode mi_W_law.2.1 1885 = .ok (.goto (-22), 3) := by decide +kernel
theorem d_W_law_1888 : decode mi_W_law.2.1 1888 = .ok (.iconst (0), 1) := by decide +kernel
theorem d_W_law_1889 : decode mi_W_law.2.1 1889 = .ok (.istore 33, 2) := by decide +kernel
theorem d_W_law_1891 : decode mi_W_law.2.1 1891 = .ok (.iconst (0), 1) := by decide +kernel
theorem d_W_law_1892 : decode mi_W_law.2.1 1892 = .ok (.istore 34, 2) := by decide +kernel
theorem d_W_law_1894 : decode mi_W_law.2.1 1894 = .ok (.iload 34, 2) := by decide +kernel
theorem d_W_law_1896 : decode mi_W_law.2.1 1896 = .ok (.aload 8, 2) := by decide +kernel
theorem d_W_law_1898 : decode mi_W_law.2.1 1898 = .ok (.iconst (1), 1) := by decide +kernel
theorem d_W_law_1899 : decode mi_W_law.2.1 1899 = .ok (.aaload, 1) := by decide +kernel
theorem d_W_law_1900 : decode mi_W_law.2.1 1900 = .ok (.arraylength, 1) := by decide +kernel
theorem d_W_law_1901 : decode mi_W_law.2.1 1901 = .ok (.if_icmp .ge (35), 3) := by decide +kernel
theorem d_W_law_1904 : decode mi_W_law.2.1 1904 = .ok (.iload 33, 2) := by decide +kernel
theorem d_W_law_1906 : decode mi_W_law.2.1 1906 = .ok (.aload 12, 2) := by decide +kernel
theorem d_W_law_1908 : decode mi_W_law.2.1 1908 = .ok (.iload 32, 2) := by decide +kernel
theorem d_W_law_1910 : decode mi_W_law.2.1 1910 = .ok (.iload_n 3, 1) := by decide +kernel
theorem d_W_law_1911 : decode mi_W_law.2.1 1911 = .ok (.ishl, 1) := by decide +kernel
theorem d_W_law_1912 : decode mi_W_law.2.1 1912 = .ok (.iload 31, 2) := by decide +kernel
theorem d_W_law_1914 : decode mi_W_law.2.1 1914 = .ok (.ior, 1) := by decide +kernel
theorem d_W_law_1915 : decode mi_W_law.2.1 1915 = .ok (.aaload, 1) := by decide +kernel
theorem d_W_law_1916 : decode mi_W_law.2.1 1916 = .ok (.aload 8, 2) := by decide +kernel
theorem d_W_law_1918 : decode mi_W_law.2.1 1918 = .ok (.iconst (1), 1) := by decide +kernel
theorem d_W_law_1919 : decode mi_W_law.2.1 1919 = .ok (.aaload, 1) := by decide +kernel
theorem d_W_law_1920 : decode mi_W_law.2.1 1920 = .ok (.iload 34, 2) := by decide +kernel
theorem d_W_law_1922 : decode mi_W_law.2.1 1922 = .ok (.iaload, 1) := by decide +kernel
theorem d_W_law_1923 : decode mi_W_law.2.1 1923 = .ok (.iaload, 1) := by decide +kernel
theorem d_W_law_1924 : decode mi_W_law.2.1 1924 = .ok (.iload 34, 2) := by decide +kernel
theorem d_W_law_1926 : decode mi_W_law.2.1 1926 = .ok (.ishl, 1) := by decide +kernel
theorem d_W_law_1927 : decode mi_W_law.2.1 1927 = .ok (.ior, 1) := by decide +kernel
theorem d_W_law_1928 : decode mi_W_law.2.1 1928 = .ok (.istore 33, 2) := by decide +kernel
theorem d_W_law_1930 : decode mi_W_law.2.1 1930 = .ok (.iinc 34 (1), 3) := by decide +kernel
theorem d_W_law_1933 : decode mi_W_law.2.1 1933 = .ok (.goto (-39), 3) := by decide +kernel
theorem d_W_law_1936 : decode mi_W_law.2.1 1936 = .ok (.iload_n 2, 1) := by decide +kernel
theorem d_W_law_1937 : decode mi_W_law.2.1 1937 = .ok (.ifCond .eq (66), 3) := by decide +kernel
theorem d_W_law_1940 : decode mi_W_law.2.1 1940 = .ok (.aload_n 1, 1) := by decide +kernel
theorem d_W_law_1941 : decode mi_W_law.2.1 1941 = .ok (.iconst (1), 1) := by decide +kernel
theorem d_W_law_1942 : decode mi_W_law.2.1 1942 = .ok (.iload 30, 2) := by decide +kernel
theorem d_W_law_1944 : decode mi_W_law.2.1 1944 = .ok (.iload 31, 2) := by decide +kernel
theorem d_W_law_1946 : decode mi_W_law.2.1 1946 = .ok (.invokestatic 196, 3) := by decide +kernel
theorem d_W_law_1949 : decode mi_W_law.2.1 1949 = .ok (.aload 15, 2) := by decide +kernel
theorem d_W_law_1951 : decode mi_W_law.2.1 1951 = .ok (.iload 31, 2) := by decide +kernel
theorem d_W_law_1953 : decode mi_W_law.2.1 1953 = .ok (.baload, 1) := by decide +kernel
theorem d_W_law_1954 : decode mi_W_law.2.1 1954 = .ok (.ifCond .eq (8), 3) := by decide +kernel
theorem d_W_law_1957 : decode mi_W_law.2.1 1957 = .ok (.iload 33, 2) := by decide +kernel
theorem d_W_law_1959 : decode mi_W_law.2.1 1959 = .ok (.goto (5), 3) := by decide +kernel
theorem d_W_law_1962 : decode mi_W_law.2.1 1962 = .ok (.ldc 17, 2) := by decide +kernel
theorem d_W_law_1964 : decode mi_W_law.2.1 1964 = .ok (.if_icmp .ne (39), 3) := by decide +kernel
theorem d_W_law_1967 : decode mi_W_law.2.1 1967 = .ok (.aload_n 1, 1) := by decide +kernel
theorem d_W_law_1968 : decode mi_W_law.2.1 1968 = .ok (.iconst (1), 1) := by decide +kernel
theorem d_W_law_1969 : decode mi_W_law.2.1 1969 = .ok (.bipush (31), 2) := by decide +kernel
theorem d_W_law_1971 : decode mi_W_law.2.1 1971 = .ok (.iload 31, 2) := by decide +kernel
theorem d_W_law_1973 : decode mi_W_law.2.1 1973 = .ok (.invokestatic 196, 3) := by decide +kernel
theorem d_W_law_1976 : decode mi_W_law.2.1 1976 = .ok (.ldc 17, 2) := by decide +kernel
theorem d_W_law_1978 : decode mi_W_law.2.1 1978 = .ok (.if_icmp .ne (25), 3) := by decide +kernel
theorem d_W_law_1981 : decode mi_W_law.2.1 1981 = .ok (.aload_n 1, 1) := by decide +kernel
theorem d_W_law_1982 : decode mi_W_law.2.1 1982 = .ok (.bipush (21), 2) := by decide +kernel
theorem d_W_law_1984 : decode mi_W_law.2.1 1984 = .ok (.invokestatic 192, 3) := by decide +kernel
theorem d_W_law_1987 : decode mi_W_law.2.1 1987 = .ok (.ldc 17, 2) := by decide +kernel
theorem d_W_law_1989 : decode mi_W_law.2.1 1989 = .ok (.if_icmp .ne (14), 3) := by decide +kernel
theorem d_W_law_1992 : decode mi_W_law.2.1 1992 = .ok (.aload_n 1, 1) := by decide +kernel
theorem d_W_law_1993 : decode mi_W_law.2.1 1993 = .ok (.invokevirtual 198, 3) := by decide +kernel
theorem d_W_law_1996 : decode mi_W_law.2.1 1996 = .ok (.ifCond .eq (7), 3) := by decide +kernel
theorem d_W_law_1999 : decode mi_W_law.2.1 1999 = .ok (.iconst (1), 1) := by decide +kernel
theorem d_W_law_2000 : decode mi_W_law.2.1 2000 = .ok (.goto (4), 3) := by decide +kernel
theorem d_W_law_2003 : decode mi_W_law.2.1 2003 = .ok (.iconst (0), 1) := by decide +kernel
theorem d_W_law_2004 : decode mi_W_law.2.1 2004 = .ok (.ireturn, 1) := by decide +kernel
end RW10
